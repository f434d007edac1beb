section
-- ===== PART A: goes FIRST, ahead of the names: the tables' words, and 'selects' of the private methods out of them =====
/-- a private method of a class that the tables say can be made, by its rows of tables_1 -/
def lw_okq (q : MethodName × Nat) : Prop := (q.1.cls ≠ "java/lang/invoke/MethodHandle" ∧ q.1.cls ≠ "java/lang/invoke/VarHandle") ∧ Cond.instantiable q.1.cls q.2 ∈ tables_1 ∧ Cond.privateMethod q.1 ∈ tables_1 ∧ Cond.instanceMethod q.1 ∈ tables_1
theorem lw_p0 : lw_okq (⟨"java/lang/Throwable", "fillInStackTrace", "(I)Ljava/lang/Throwable;"⟩, 6) := ⟨⟨by decide +kernel, by decide +kernel⟩, List.mem_of_getElem? (i := 282) (by decide +kernel), List.mem_of_getElem? (i := 280) (by decide +kernel), List.mem_of_getElem? (i := 281) (by decide +kernel)⟩
theorem lw_p1 : lw_okq (⟨"WidowPennies", "checkWidow", "(I)V"⟩, 3) := ⟨⟨by decide +kernel, by decide +kernel⟩, List.mem_of_getElem? (i := 15) (by decide +kernel), List.mem_of_getElem? (i := 408) (by decide +kernel), List.mem_of_getElem? (i := 409) (by decide +kernel)⟩
theorem lw_p2 : lw_okq (⟨"WidowPenniesModel", "reckon", "()V"⟩, 7) := ⟨⟨by decide +kernel, by decide +kernel⟩, List.mem_of_getElem? (i := 516) (by decide +kernel), List.mem_of_getElem? (i := 522) (by decide +kernel), List.mem_of_getElem? (i := 523) (by decide +kernel)⟩
theorem lw_p3 : lw_okq (⟨"WidowPenniesModel", "fail", "(I)I"⟩, 7) := ⟨⟨by decide +kernel, by decide +kernel⟩, List.mem_of_getElem? (i := 516) (by decide +kernel), List.mem_of_getElem? (i := 562) (by decide +kernel), List.mem_of_getElem? (i := 563) (by decide +kernel)⟩
theorem lw_p4 : lw_okq (⟨"WidowPenniesModel", "worthOf", "(II)I"⟩, 7) := ⟨⟨by decide +kernel, by decide +kernel⟩, List.mem_of_getElem? (i := 516) (by decide +kernel), List.mem_of_getElem? (i := 585) (by decide +kernel), List.mem_of_getElem? (i := 586) (by decide +kernel)⟩
theorem lw_p5 : lw_okq (⟨"WidowPenniesModel", "priceOf", "(III)I"⟩, 7) := ⟨⟨by decide +kernel, by decide +kernel⟩, List.mem_of_getElem? (i := 516) (by decide +kernel), List.mem_of_getElem? (i := 589) (by decide +kernel), List.mem_of_getElem? (i := 590) (by decide +kernel)⟩
theorem lw_p6 : lw_okq (⟨"WidowPenniesModel", "comeIn", "(J)V"⟩, 7) := ⟨⟨by decide +kernel, by decide +kernel⟩, List.mem_of_getElem? (i := 516) (by decide +kernel), List.mem_of_getElem? (i := 599) (by decide +kernel), List.mem_of_getElem? (i := 600) (by decide +kernel)⟩
theorem lw_p7 : lw_okq (⟨"WidowPenniesModel", "isWidow", "(I)Z"⟩, 7) := ⟨⟨by decide +kernel, by decide +kernel⟩, List.mem_of_getElem? (i := 516) (by decide +kernel), List.mem_of_getElem? (i := 611) (by decide +kernel), List.mem_of_getElem? (i := 612) (by decide +kernel)⟩
theorem lw_p8 : lw_okq (⟨"WidowPenniesModel", "isAlive", "(I)Z"⟩, 7) := ⟨⟨by decide +kernel, by decide +kernel⟩, List.mem_of_getElem? (i := 516) (by decide +kernel), List.mem_of_getElem? (i := 615) (by decide +kernel), List.mem_of_getElem? (i := 616) (by decide +kernel)⟩
theorem lw_p9 : lw_okq (⟨"WidowPenniesModel", "wi", "(II)I"⟩, 7) := ⟨⟨by decide +kernel, by decide +kernel⟩, List.mem_of_getElem? (i := 516) (by decide +kernel), List.mem_of_getElem? (i := 619) (by decide +kernel), List.mem_of_getElem? (i := 620) (by decide +kernel)⟩
theorem lw_p10 : lw_okq (⟨"WidowPenniesModel", "kept", "(I)I"⟩, 7) := ⟨⟨by decide +kernel, by decide +kernel⟩, List.mem_of_getElem? (i := 516) (by decide +kernel), List.mem_of_getElem? (i := 623) (by decide +kernel), List.mem_of_getElem? (i := 624) (by decide +kernel)⟩
theorem lw_p11 : lw_okq (⟨"WidowPenniesModel", "let", "(III)V"⟩, 7) := ⟨⟨by decide +kernel, by decide +kernel⟩, List.mem_of_getElem? (i := 516) (by decide +kernel), List.mem_of_getElem? (i := 627) (by decide +kernel), List.mem_of_getElem? (i := 628) (by decide +kernel)⟩
theorem lw_p12 : lw_okq (⟨"WidowPenniesModel", "back", "(I)I"⟩, 7) := ⟨⟨by decide +kernel, by decide +kernel⟩, List.mem_of_getElem? (i := 516) (by decide +kernel), List.mem_of_getElem? (i := 635) (by decide +kernel), List.mem_of_getElem? (i := 636) (by decide +kernel)⟩
theorem lw_p13 : lw_okq (⟨"WidowPenniesModel", "payOut", "(II)V"⟩, 7) := ⟨⟨by decide +kernel, by decide +kernel⟩, List.mem_of_getElem? (i := 516) (by decide +kernel), List.mem_of_getElem? (i := 639) (by decide +kernel), List.mem_of_getElem? (i := 640) (by decide +kernel)⟩
theorem lw_p14 : lw_okq (⟨"WidowPenniesModel", "widowTold", "(II)I"⟩, 7) := ⟨⟨by decide +kernel, by decide +kernel⟩, List.mem_of_getElem? (i := 516) (by decide +kernel), List.mem_of_getElem? (i := 661) (by decide +kernel), List.mem_of_getElem? (i := 662) (by decide +kernel)⟩
theorem lw_p15 : lw_okq (⟨"WidowPenniesModel", "counted", "(I)I"⟩, 7) := ⟨⟨by decide +kernel, by decide +kernel⟩, List.mem_of_getElem? (i := 516) (by decide +kernel), List.mem_of_getElem? (i := 669) (by decide +kernel), List.mem_of_getElem? (i := 670) (by decide +kernel)⟩
def lw_privs_1 : List (MethodName × Nat) := [(⟨"java/lang/Throwable", "fillInStackTrace", "(I)Ljava/lang/Throwable;"⟩, 6), (⟨"WidowPennies", "checkWidow", "(I)V"⟩, 3), (⟨"WidowPenniesModel", "reckon", "()V"⟩, 7), (⟨"WidowPenniesModel", "fail", "(I)I"⟩, 7), (⟨"WidowPenniesModel", "worthOf", "(II)I"⟩, 7), (⟨"WidowPenniesModel", "priceOf", "(III)I"⟩, 7), (⟨"WidowPenniesModel", "comeIn", "(J)V"⟩, 7), (⟨"WidowPenniesModel", "isWidow", "(I)Z"⟩, 7), (⟨"WidowPenniesModel", "isAlive", "(I)Z"⟩, 7), (⟨"WidowPenniesModel", "wi", "(II)I"⟩, 7), (⟨"WidowPenniesModel", "kept", "(I)I"⟩, 7), (⟨"WidowPenniesModel", "let", "(III)V"⟩, 7), (⟨"WidowPenniesModel", "back", "(I)I"⟩, 7), (⟨"WidowPenniesModel", "payOut", "(II)V"⟩, 7), (⟨"WidowPenniesModel", "widowTold", "(II)I"⟩, 7), (⟨"WidowPenniesModel", "counted", "(I)I"⟩, 7)]
theorem lw_r1 : ∀ q ∈ lw_privs_1, lw_okq q := List.forall_mem_cons.mpr ⟨lw_p0, List.forall_mem_cons.mpr ⟨lw_p1, List.forall_mem_cons.mpr ⟨lw_p2, List.forall_mem_cons.mpr ⟨lw_p3, List.forall_mem_cons.mpr ⟨lw_p4, List.forall_mem_cons.mpr ⟨lw_p5, List.forall_mem_cons.mpr ⟨lw_p6, List.forall_mem_cons.mpr ⟨lw_p7, List.forall_mem_cons.mpr ⟨lw_p8, List.forall_mem_cons.mpr ⟨lw_p9, List.forall_mem_cons.mpr ⟨lw_p10, List.forall_mem_cons.mpr ⟨lw_p11, List.forall_mem_cons.mpr ⟨lw_p12, List.forall_mem_cons.mpr ⟨lw_p13, List.forall_mem_cons.mpr ⟨lw_p14, List.forall_mem_cons.mpr ⟨lw_p15, fun _ h => absurd h List.not_mem_nil⟩⟩⟩⟩⟩⟩⟩⟩⟩⟩⟩⟩⟩⟩⟩⟩
theorem lw_p16 : lw_okq (⟨"WidowPenniesModel", "keptForAll", "()I"⟩, 7) := ⟨⟨by decide +kernel, by decide +kernel⟩, List.mem_of_getElem? (i := 516) (by decide +kernel), List.mem_of_getElem? (i := 673) (by decide +kernel), List.mem_of_getElem? (i := 674) (by decide +kernel)⟩
theorem lw_p17 : lw_okq (⟨"WidowPenniesModel", "yearsOn", "(I)V"⟩, 7) := ⟨⟨by decide +kernel, by decide +kernel⟩, List.mem_of_getElem? (i := 516) (by decide +kernel), List.mem_of_getElem? (i := 685) (by decide +kernel), List.mem_of_getElem? (i := 686) (by decide +kernel)⟩
theorem lw_p18 : lw_okq (⟨"WidowPenniesModel", "yearOn", "()V"⟩, 7) := ⟨⟨by decide +kernel, by decide +kernel⟩, List.mem_of_getElem? (i := 516) (by decide +kernel), List.mem_of_getElem? (i := 689) (by decide +kernel), List.mem_of_getElem? (i := 690) (by decide +kernel)⟩
def lw_privs_2 : List (MethodName × Nat) := [(⟨"WidowPenniesModel", "keptForAll", "()I"⟩, 7), (⟨"WidowPenniesModel", "yearsOn", "(I)V"⟩, 7), (⟨"WidowPenniesModel", "yearOn", "()V"⟩, 7)]
theorem lw_r2 : ∀ q ∈ lw_privs_2, lw_okq q := List.forall_mem_cons.mpr ⟨lw_p16, List.forall_mem_cons.mpr ⟨lw_p17, List.forall_mem_cons.mpr ⟨lw_p18, fun _ h => absurd h List.not_mem_nil⟩⟩⟩
def lw_privs : List (MethodName × Nat) := lw_privs_1 ++ (lw_privs_2)
def lw_tbl : List Cond := k2_sels lw_privs ++ tables_1
theorem lw_privs_ok : ∀ q ∈ lw_privs, lw_okq q := by
  show ∀ q ∈ lw_privs_1 ++ (lw_privs_2), lw_okq q
  exact List.forall_mem_append.mpr ⟨lw_r1, lw_r2⟩
/-- the streams that the claim lets the run draw from -/
abbrev lw_cs : List Choice := [Jvm.Choice.named "NaN.bits"]
theorem lw_bits : nanBits ∈ lw_cs := by first | decide | exact List.mem_cons_self | simp [lw_cs, nanBits]
-- ===== end of PART A; then your names; then what follows =====
end
section
/-! ===== BEGIN words of one list among another's, by their places ===== -/
theorem goodIn_r {big : List Cond} (ws : List Cond) (ps : List Nat) (hp : ws = ps.filterMap (fun i => big[i]?)) (h : ws.all goodWord = true) : GoodIn big ws := by
  intro w hw
  have h1 := List.all_eq_true.mp h w hw
  rw [hp] at hw
  obtain ⟨i, -, hi⟩ := List.mem_filterMap.mp hw
  have hm : w ∈ big := by first | exact List.mem_of_getElem? hi | exact List.getElem?_mem hi
  exact ⟨hm, good_of_word h1⟩
theorem goodIn_app {big a b : List Cond} (ha : GoodIn big a) (hb : GoodIn big b) : GoodIn big (a ++ b) := fun w h => (List.mem_append.mp h).elim (ha w) (hb w)
theorem goodIn_ca {big a b : List Cond} {c : Cond} (ha : GoodIn big (c :: a)) (hb : GoodIn big b) : GoodIn big (c :: (a ++ b)) := fun w h => (List.mem_cons.mp h).elim (fun e => ha w (List.mem_cons.mpr (Or.inl e))) (fun h => (List.mem_append.mp h).elim (fun h => ha w (List.mem_cons.mpr (Or.inr h))) (hb w))
theorem goodIn_sub {big ws : List Cond} (hm : ∀ w ∈ ws, w ∈ big) (h : ws.all goodWord = true) : GoodIn big ws := fun w hw => ⟨hm w hw, good_of_word (List.all_eq_true.mp h w hw)⟩
/-! ===== END ===== -/

/-! ===== BEGIN exceptions that leave a method, and their catching by the caller (launches without stack traces) ===== -/
section VXA
/-! The laws vx_back, vx_callV, vx_callS, vx_callSW, vx_throw0, vx_throwS follow proofs of the library, with one case more: JvmDerived/Free/Laws.lean (Back.of_free), Shelf42/LK1.lean (callV, callS), Shelf/KitTraced.lean (throwNew0V, throwNewS). -/
/-- where a method has thrown q: the class by its name, the cell, what was written, the world -/
def vx_T (XC : String → State → State → Prop) (st : State) (q : Addr) (t : State) (mc ms : Nat) (free : Addr → Prop) : Prop :=
  ∃ (E : String) (ce : Cell) (L : List Loc), XC E st t ∧ t.heap[q]? = some ce ∧ ce.vm = .none ∧ st.vm.findClass E = some ce.cls ∧ st.WarmedH t.vm ∧ st.sameButNew ({ t with vm := st.vm } : State) L mc ms ∧ ∀ z ∈ L, free z.base
def vx_Q (Qc : Array Value → State → Outcome → State → Prop) (XC : String → State → State → Prop) (mc ms : Nat) (free : Addr → Prop) : Array Value → State → Outcome → State → Prop := fun a st o t =>
  (Qc a st o t ∧ ∃ L, FrameEnd st o t L mc ms ∧ ∀ q ∈ L, free q.base) ∨ ∃ q, o = .threw q ∧ vx_T XC st q t mc ms free
/-- a callee that returns or throws -/
def vx_Met (l : Launch) (y : MethodName) (ws : List Cond) (rm : Room) (Pc : Array Value → State → Prop) (Qc : Array Value → State → Outcome → State → Prop) (XC : String → State → State → Prop) (mc ms : Nat) (free : Addr → Prop) : Prop :=
  MetFree l y (headSpec ws rm) Pc (fun _ _ _ _ _ => True) (vx_Q Qc XC mc ms free)
def vx_Post (XC : String → State → State → Prop) (mc ms : Nat) (free : Addr → Prop) : Pt → Array Value → Addr → Pt → Prop := fun A a q B =>
  ∃ (g : JFrame) (mk : MethodId) (t : State) (L : List Loc) (E : String) (ce : Cell), B.U.heap = t.heap ∧ B.U.vm = t.vm ∧ XC E (A.U.calling g mk a) t ∧ t.heap[q]? = some ce ∧ ce.vm = .none ∧ A.U.vm.findClass E = some ce.cls ∧ B.locs = A.locs ++ L ∧ (∀ z ∈ L, free z.base) ∧ B.cells = A.cells + mc ∧ B.slots = A.slots + ms
def vx_Back (l : Launch) (R : Room) (p : Program) (e : Env) (below : List Frame) (s : State) (sargs : Array Value) (y : MethodName) (len W9 : Nat)
    (Pre : Pt → Array Value → Prop) (Post : Pt → Array Value → Option Value → Pt → Prop) (PostX : Pt → Array Value → Addr → Pt → Prop) : Prop :=
  ∀ (m : MethodId) (meth : Method) (c : Code) (A : Pt) (g : JFrame) (ig : Instr) (mk : MethodId) (a : Array Value),
    Stand p l e R s m sargs below meth c A.U A.locs A.cells A.slots → g.method = m → g.locals.size = c.maxLocals → decode c.code g.pc = .ok (ig, len) →
    2 * g.monitorRoom + (g.stack.map fun v => v.category).sum ≤ W9 → A.U.methodNamed? y = some mk → Pre A a →
    (∃ (v : Option Value) (B : Pt), Stand p l e R s m sargs below meth c B.U B.locs B.cells B.slots ∧ Post A a v B ∧
      Steps p.tables e below (doInvoke e (A.U.setTop g) [] mk a).1 (B.U.setTop { g with pc := g.pc + len, stack := v.toList ++ g.stack })) ∨
    (∃ (q : Addr) (B : Pt), Stand p l e R s m sargs below meth c B.U B.locs B.cells B.slots ∧ PostX A a q B ∧
      Steps p.tables e below (doInvoke e (A.U.setTop g) [] mk a).1 ((B.U.setTop g).pushFrame (.throwing q)))
section Payer
variable {l : Launch} {R : Room} {p : Program} {e : Env} {below : List Frame} {s : State} {sargs : Array Value} {y : MethodName} {len W9 : Nat}
theorem vx_back {ws : List Cond} {rm : Room} {Pc : Array Value → State → Prop} {Qc : Array Value → State → Outcome → State → Prop} {XC : String → State → State → Prop} {mc ms : Nat} {free : Addr → Prop} {bytes : ByteArray} {maxL : Nat} {ret : Option FieldType}
    (hM : vx_Met l y ws rm Pc Qc XC mc ms free) (hblind : FrameBlind Pc) (hrc : rm.cells = mc) (hrs : rm.slots = ms)
    (hframes : rm.frames + 1 ≤ R.frames) (hlocals : W9 + (maxL + 11) + rm.locals ≤ R.locals)
    (hws : ∀ w ∈ ws, ∀ a' U, s.WarmedH U.vm → w.before a' U = true) (hcode : Cond.code y bytes maxL ret ∈ ws) (hinit : ∀ a' U, s.WarmedH U.vm → (Cond.initialized y.cls).before a' U = true) :
    vx_Back l R p e below s sargs y len W9 (PreOf R mc ms Pc) (PostOf Qc mc ms free) (vx_Post XC mc ms free) := by
  intro m meth c A g ig mk a X hg hsize hdg hW hn hp
  have h1 : (headSpec ws rm).pre.before a A.U = true := atoms_intro fun w hw => hws w hw _ _ X.warmed
  have h2 : (Cond.code y bytes maxL ret).before a A.U = true := hws _ hcode _ _ X.warmed
  have h3 : (Cond.initialized y.cls).before a A.U = true := hinit _ _ X.warmed
  have h4 : A.cells + (headSpec ws rm).room.cells ≤ R.cells := by rw [show (headSpec ws rm).room.cells = mc from hrc]; exact hp.1
  have h5 : A.slots + (headSpec ws rm).room.slots ≤ R.slots := by rw [show (headSpec ws rm).room.slots = ms from hrs]; exact hp.2.1
  have hPc : Pc a (A.U.calling g mk a) := hblind _ _ _ _ hp.2.2
  obtain ⟨U, Ls, c0, s0⟩ := A
  dsimp only [Pt.U, Pt.locs, Pt.cells, Pt.slots] at h1 h2 h3 h4 h5 X hn hPc ⊢
  obtain ⟨methY, cY, hmY, hcY, -, hlY, -, -, -, -⟩ := Cond.code_spec hn h2
  obtain ⟨kY, hkY, -⟩ := className_of_methodNamed hn
  have hinitY : kY.init = .initialized := Cond.initialized_spec (findClass_of_methodNamed hn) hkY h3
  have h : At U g.method c below := by rw [hg]; exact X.here
  have hlocals9 : W9 + (maxL + 11) + (headSpec ws rm).room.locals ≤ R.locals := hlocals
  have happ : (headSpec ws rm).appliesLoose y e.platform (U.calling g mk a) = true :=
    Spec.appliesLoose_calling (g := g) h hdg hn hkY hinitY
      (X.room_calling (g := g) (R' := (headSpec ws rm).room) hsize hmY hcY hframes (by rw [hlY]; omega) h4 h5) h1
  obtain ⟨mid, hmid⟩ := h.above
  have hfr : (U.setTop g).frames = (.java g :: mid) ++ below := by rw [State.frames_setTop' g h.top, hmid]; rfl
  obtain ⟨o, s₂, hsteps, -, hend, hq⟩ := Steps.callFree hM p X.admits X.cas X.clock (acts := []) hfr happ hPc trivial
  have hq' : vx_Q Qc XC mc ms free a (U.calling g mk a) o s₂ := hq
  rw [State.frames_setTop' g h.top] at hend
  obtain ⟨g₀, hg0⟩ := Option.isSome_iff_exists.mp h.top
  obtain ⟨r, hr⟩ := State.topJava?_eq_some.mp hg0
  have hr' : (({ U with heap := s₂.heap, slotsUsed := s₂.slotsUsed } : State).setVm s₂.vm).frames = .java g₀ :: r := hr
  rcases hq' with ⟨hqc, L, hfe, hL⟩ | ⟨q, rfl, E, ce, L, hx, hce, hcv, hcl, hW₂, hsm, hL⟩
  · obtain ⟨⟨v, rfl⟩, hW₂, e2, q2, q3, q4, q5, q6⟩ := id hfe
    have e3 : s₂ = ({ (U.calling g mk a).setFrames s₂.frames with heap := s₂.heap, slotsUsed := s₂.slotsUsed } : State).setVm s₂.vm := by
      have : s₂ = ({ s₂ with vm := (U.calling g mk a).vm } : State).setVm s₂.vm := rfl
      rw [e2] at this
      exact this
    obtain ⟨c₂, i₂, len₂, hc₂, hd₂, hf₂⟩ := hend
    have hW' : U.WarmedH s₂.vm := hW₂
    have hcc : c₂ = c := by
      have h1 : s₂.code? g.method = U.code? g.method := by
        rw [State.code?_eq, State.code?_eq, hW'.alike.method?]
      exact Option.some.inj (hc₂.symm.trans (h1.trans h.code))
    subst hcc
    have hlen : len₂ = len := by rw [hdg] at hd₂; cases hd₂; rfl
    subst hlen
    have hs₂ : s₂ = (({ U with heap := s₂.heap, slotsUsed := s₂.slotsUsed } : State).setVm s₂.vm).setTop { g with pc := g.pc + len₂, stack := v.toList ++ g.stack } := by
      refine e3.trans ?_
      rw [hf₂, State.calling_eq h.top, State.setFrames_setFrames, State.setTop_of_frames _ hr', hr]
      rfl
    have hsame : U.sameButNew ({ U with heap := s₂.heap, slotsUsed := s₂.slotsUsed } : State) L mc ms := by
      refine ⟨?_, q2, q3, q4, q5, q6⟩
      obtain ⟨t, ht, -⟩ := State.frames_cons hr
      show ({ U with heap := s₂.heap, slotsUsed := s₂.slotsUsed } : State) = { U.setFrames U.frames with heap := s₂.heap, slotsUsed := s₂.slotsUsed }
      rw [State.setFrames_self ht]
    subst hg
    refine Or.inl ⟨v, ⟨(({ U with heap := s₂.heap, slotsUsed := s₂.slotsUsed } : State).setVm s₂.vm), Ls ++ L, c0 + mc, s0 + ms⟩,
      ⟨X.admits, X.cas, X.clock, X.frames, X.room, X.hears, X.method, X.code, (X.here.setHeapUsed s₂.heap s₂.slotsUsed).setVm hW'.alike, X.tail, State.WarmedH.trans X.warmed hW', X.limits, X.bytes, X.same.trans (hsame.setVm s.vm)⟩,
      ⟨g, mk, s₂, L, rfl, rfl, hqc, rfl, hL, rfl, rfl⟩, ?_⟩
    show Steps p.tables e below _ ((({ U with heap := s₂.heap, slotsUsed := s₂.slotsUsed } : State).setVm s₂.vm).setTop { g with pc := g.pc + len₂, stack := v.toList ++ g.stack })
    rw [← hs₂]
    exact hsteps
  · obtain ⟨e2, q2, q3, q4, q5, q6⟩ := id hsm
    have e3 : s₂ = ({ (U.calling g mk a).setFrames s₂.frames with heap := s₂.heap, slotsUsed := s₂.slotsUsed } : State).setVm s₂.vm := by
      have : s₂ = ({ s₂ with vm := (U.calling g mk a).vm } : State).setVm s₂.vm := rfl
      rw [e2] at this
      exact this
    have hf₂ : s₂.frames = .throwing q :: .java g :: U.frames.tail := hend
    have hW' : U.WarmedH s₂.vm := hW₂
    have hs₂ : s₂ = ((({ U with heap := s₂.heap, slotsUsed := s₂.slotsUsed } : State).setVm s₂.vm).setTop g).pushFrame (.throwing q) := by
      refine e3.trans ?_
      rw [hf₂, State.calling_eq h.top, State.setFrames_setFrames, State.pushFrame, State.frames_setTop _ hr', State.setTop_of_frames _ hr', State.setFrames_setFrames, hr]
      rfl
    have hsame : U.sameButNew ({ U with heap := s₂.heap, slotsUsed := s₂.slotsUsed } : State) L mc ms := by
      refine ⟨?_, q2, q3, q4, q5, q6⟩
      obtain ⟨t, ht, -⟩ := State.frames_cons hr
      show ({ U with heap := s₂.heap, slotsUsed := s₂.slotsUsed } : State) = { U.setFrames U.frames with heap := s₂.heap, slotsUsed := s₂.slotsUsed }
      rw [State.setFrames_self ht]
    subst hg
    refine Or.inr ⟨q, ⟨(({ U with heap := s₂.heap, slotsUsed := s₂.slotsUsed } : State).setVm s₂.vm), Ls ++ L, c0 + mc, s0 + ms⟩,
      ⟨X.admits, X.cas, X.clock, X.frames, X.room, X.hears, X.method, X.code, (X.here.setHeapUsed s₂.heap s₂.slotsUsed).setVm hW'.alike, X.tail, State.WarmedH.trans X.warmed hW', X.limits, X.bytes, X.same.trans (hsame.setVm s.vm)⟩,
      ⟨g, mk, s₂, L, E, ce, rfl, rfl, hx, hce, hcv, hcl, rfl, hL, rfl, rfl⟩, ?_⟩
    show Steps p.tables e below _ (((({ U with heap := s₂.heap, slotsUsed := s₂.slotsUsed } : State).setVm s₂.vm).setTop g).pushFrame (.throwing q))
    rw [← hs₂]
    exact hsteps
end Payer
section Calls
variable {p : Program} {l : Launch} {e : Env} {R : Room} {s : State} {m : MethodId} {args : Array Value} {below : List Frame} {meth : Method} {c : Code} {T : State} {locs : List Loc} {cells slots : Nat}
theorem vx_callV (X : Stand p l e R s m args below meth c T locs cells slots) (hexec : p.tables.exec = Jvm.exec) {own C : String} {index : Nat} {y : MethodName} {bytes : ByteArray} {maxL : Nat} {ret : Option FieldType}
    (hown : s.vm.findClass own = some m.cls) (hlink : (Cond.methodLink own index y).before args s = true) (hinst : (Cond.instanceMethod y).before args s = true) (hsel : (Cond.selects C y y).before args s = true)
    (hcode : (Cond.code y bytes maxL ret).before args s = true) (hy : y.cls ≠ "java/lang/invoke/MethodHandle" ∧ y.cls ≠ "java/lang/invoke/VarHandle")
    {W9 : Nat} {Pre : Pt → Array Value → Prop} {Post : Pt → Array Value → Option Value → Pt → Prop} {PostX : Pt → Array Value → Addr → Pt → Prop} (hK : vx_Back l R p e below s args y 3 W9 Pre Post PostX)
    {b : Addr} {cellB : Cell} (hcell : T.heap[b]? = some cellB) (hobj : cellB.vm.isStatics = false) (hcls : s.vm.findClass C = some cellB.cls)
    {g : JFrame} (hg : g.method = m) (hsize : g.locals.size = c.maxLocals) {argsL rest : List Value} (hlen : ∀ sig, parseMethodDescriptor y.desc = some sig → argsL.length = sig.parameters.length)
    (hstack : g.stack = argsL.reverse ++ .ref b :: rest) (hW : 2 * g.monitorRoom + (rest.map fun v => v.category).sum ≤ W9) (hdg : decode c.code g.pc = .ok (.invokevirtual index, 3))
    (hpre : ∀ vm₁, s.WarmedH vm₁ → Pre ⟨T.setVm vm₁, locs, cells, slots⟩ (Value.ref b :: argsL).toArray) :
    (∃ (v : Option Value) (vm₁ : Vm) (B : Pt), s.WarmedH vm₁ ∧ Stand p l e R s m args below meth c B.U B.locs B.cells B.slots ∧ Post ⟨T.setVm vm₁, locs, cells, slots⟩ (Value.ref b :: argsL).toArray v B ∧
      ∀ target, Steps p.tables e below (B.U.setTop { g with pc := g.pc + 3, stack := v.toList ++ rest }) target → Steps p.tables e below (T.setTop g) target) ∨
    (∃ (q : Addr) (vm₁ : Vm) (B : Pt), s.WarmedH vm₁ ∧ Stand p l e R s m args below meth c B.U B.locs B.cells B.slots ∧ PostX ⟨T.setVm vm₁, locs, cells, slots⟩ (Value.ref b :: argsL).toArray q B ∧
      Steps p.tables e below (T.setTop g) ((B.U.setTop { g with stack := rest }).pushFrame (.throwing q))) := by
  obtain ⟨mk, methM, hnamed, hmethM, hstM, habM⟩ := Cond.instanceMethod_spec hinst
  obtain ⟨methM', cM, hmethM', -, -, -, -, -, -, hsigM⟩ := Cond.code_spec hnamed hcode
  cases hmethM.symm.trans hmethM'
  obtain ⟨c2, r2, m2, q1, q2, q3, q4, kP, hkP, hkPi⟩ := Cond.selects_spec hsel
  cases hcls.symm.trans q1
  cases (State.methodFound?_of_named hnamed hy).symm.trans q2
  cases hnamed.symm.trans q3
  have hselP : selectMethod e.platform s.vm cellB.cls mk = .method mk := by rw [Launch.admits_selectMethod X.admits]; exact q4
  obtain ⟨vm₁, X₁, hstep₁⟩ := X.invokevirtual hexec hown hlink hnamed hmethM hstM hkP hkPi hy (a := b) (cell := cellB) hcell
    (fun z h => by rw [h] at hobj; cases hobj) hselP hmethM habM hkP hkPi (g := g) hg (argsL := argsL) (rest := rest) (hlen _ hsigM) hstack hdg
  rcases hK m meth c ⟨T.setVm vm₁, locs, cells, slots⟩ { g with stack := rest } (.invokevirtual index) mk (Value.ref b :: argsL).toArray X₁ hg hsize hdg hW (X₁.named hnamed) (hpre vm₁ X₁.warmed) with ⟨v, B, X', hpost, hsteps⟩ | ⟨q, B, X', hpost, hsteps⟩
  · exact Or.inl ⟨v, vm₁, B, X₁.warmed, X', hpost, fun target h => hstep₁ _ fun acts => by rw [doInvoke_state]; exact hsteps.trans h⟩
  · exact Or.inr ⟨q, vm₁, B, X₁.warmed, X', hpost, hstep₁ _ fun acts => by rw [doInvoke_state]; exact hsteps⟩
theorem vx_callS (X : Stand p l e R s m args below meth c T locs cells slots) (hexec : p.tables.exec = Jvm.exec) {own : String} {index : Nat} {y : MethodName} {bytes : ByteArray} {maxL : Nat} {ret : Option FieldType}
    (hown : s.vm.findClass own = some m.cls) (hlink : (Cond.methodLink own index y).before args s = true) (hstat : (Cond.static y).before args s = true) (hinit : (Cond.initialized y.cls).before args s = true)
    (hcode : (Cond.code y bytes maxL ret).before args s = true) (hy : y.cls ≠ "java/lang/invoke/MethodHandle" ∧ y.cls ≠ "java/lang/invoke/VarHandle")
    {W9 : Nat} {Pre : Pt → Array Value → Prop} {Post : Pt → Array Value → Option Value → Pt → Prop} {PostX : Pt → Array Value → Addr → Pt → Prop} (hK : vx_Back l R p e below s args y 3 W9 Pre Post PostX)
    {g : JFrame} (hg : g.method = m) (hsize : g.locals.size = c.maxLocals) {argsL rest : List Value} (hlen : ∀ sig, parseMethodDescriptor y.desc = some sig → argsL.length = sig.parameters.length)
    (hstack : g.stack = argsL.reverse ++ rest) (hW : 2 * g.monitorRoom + (rest.map fun v => v.category).sum ≤ W9) (hdg : decode c.code g.pc = .ok (.invokestatic index, 3))
    (hpre : ∀ vm₁, s.WarmedH vm₁ → Pre ⟨T.setVm vm₁, locs, cells, slots⟩ argsL.toArray) :
    (∃ (v : Option Value) (vm₁ : Vm) (B : Pt), s.WarmedH vm₁ ∧ Stand p l e R s m args below meth c B.U B.locs B.cells B.slots ∧ Post ⟨T.setVm vm₁, locs, cells, slots⟩ argsL.toArray v B ∧
      ∀ target, Steps p.tables e below (B.U.setTop { g with pc := g.pc + 3, stack := v.toList ++ rest }) target → Steps p.tables e below (T.setTop g) target) ∨
    (∃ (q : Addr) (vm₁ : Vm) (B : Pt), s.WarmedH vm₁ ∧ Stand p l e R s m args below meth c B.U B.locs B.cells B.slots ∧ PostX ⟨T.setVm vm₁, locs, cells, slots⟩ argsL.toArray q B ∧
      Steps p.tables e below (T.setTop g) ((B.U.setTop { g with stack := rest }).pushFrame (.throwing q))) := by
  obtain ⟨mk, hnamed⟩ := Cond.code_named hcode
  obtain ⟨methM, cM, hmethM, -, -, -, -, -, -, hsigM⟩ := Cond.code_spec hnamed hcode
  have hstatic : methM.isStatic = true := Cond.static_spec hnamed hmethM hstat
  obtain ⟨kP, hkP, -⟩ := className_of_methodNamed hnamed
  have hinitP : kP.init = .initialized := Cond.initialized_spec (findClass_of_methodNamed hnamed) hkP hinit
  obtain ⟨vm₁, X₁, hstep₁⟩ := X.invokestatic hexec hown hlink hnamed hmethM hstatic hkP hinitP hy (g := g) hg (argsL := argsL) (rest := rest) (hlen _ hsigM) hstack hdg
  rcases hK m meth c ⟨T.setVm vm₁, locs, cells, slots⟩ { g with stack := rest } (.invokestatic index) mk argsL.toArray X₁ hg hsize hdg hW (X₁.named hnamed) (hpre vm₁ X₁.warmed) with ⟨v, B, X', hpost, hsteps⟩ | ⟨q, B, X', hpost, hsteps⟩
  · exact Or.inl ⟨v, vm₁, B, X₁.warmed, X', hpost, fun target h => hstep₁ _ fun acts => by rw [doInvoke_state]; exact hsteps.trans h⟩
  · exact Or.inr ⟨q, vm₁, B, X₁.warmed, X', hpost, hstep₁ _ fun acts => by rw [doInvoke_state]; exact hsteps⟩
end Calls
theorem vx_cls {s : State} {T : State} {vm₁ : Vm} {E : String} {k : ClassId} (hW : s.WarmedH vm₁) (h : (T.setVm vm₁).vm.findClass E = some k) : s.vm.findClass E = some k := by
  have h1 : vm₁.findClass E = some k := h
  rw [hW.alike.findClass] at h1
  exact h1
/-- the method's frame g, with q thrown over it -/
def vx_W (p : Program) (l : Launch) (e : Env) (R : Room) (s : State) (m : MethodId) (args : Array Value) (below : List Frame) (meth : Method) (c : Code) (H : Heap) (locs : List Loc) (cells slots : Nat) (Q : State → Prop) (g : JFrame) (q : Addr) : Prop :=
  ∀ T : State, T.heap = H → Stand p l e R s m args below meth c T locs cells slots → ∃ t, Steps p.tables e below ((T.setTop g).pushFrame (.throwing q)) t ∧ Q t
def vx_Run (p : Program) (l : Launch) (e : Env) (R : Room) (s : State) (m : MethodId) (args : Array Value) (below : List Frame) (meth : Method) (c : Code) (H : Heap) (locs : List Loc) (cells slots mc ms : Nat) (g : JFrame) (rest : List Value) (Qa : State → Outcome → State → Prop) (XC : String → State → State → Prop) (free : Addr → Prop) : Prop :=
  ∀ T : State, T.heap = H → Stand p l e R s m args below meth c T locs cells slots →
    (∃ (v : Option Value) (st₀ t T' : State) (L : List Loc), st₀.heap = H ∧ Stand p l e R s m args below meth c T' (locs ++ L) (cells + mc) (slots + ms) ∧ (∀ q ∈ L, free q.base) ∧ T'.heap = t.heap ∧ T'.vm = t.vm ∧ Qa st₀ (.returned v) t ∧
      Goes p e below T g T' { g with pc := g.pc + 3, stack := v.toList ++ rest }) ∨
    (∃ (q : Addr) (st₀ t T' : State) (L : List Loc) (E : String) (ce : Cell), st₀.heap = H ∧ Stand p l e R s m args below meth c T' (locs ++ L) (cells + mc) (slots + ms) ∧ (∀ z ∈ L, free z.base) ∧ T'.heap = t.heap ∧ T'.vm = t.vm ∧ XC E st₀ t ∧ t.heap[q]? = some ce ∧ ce.vm = .none ∧ s.vm.findClass E = some ce.cls ∧
      Steps p.tables e below (T.setTop g) ((T'.setTop { g with stack := rest }).pushFrame (.throwing q)))
def vx_X {S : Type} (px : S → Prop) (B : String → S → State → Prop) (A : Nat → Prop) : String → State → State → Prop := fun E st t => ∃ u : S, px u ∧ B E u t ∧ va_F A st t
section Runs
variable {p : Program} {l : Launch} {e : Env} {R : Room} {s : State} {m : MethodId} {args : Array Value} {below : List Frame} {meth : Method} {c : Code} {H : Heap} {locs : List Loc} {cells slots : Nat}
variable {y : MethodName} {bytes cc : ByteArray} {maxL nL mc ms n index : Nat} {ret : Option FieldType} {ws : List Cond} {rm : Room} {Pc : Array Value → State → Prop} {Qc : Array Value → State → Outcome → State → Prop} {XC : String → State → State → Prop} {free : Addr → Prop} {Ts : List Cond} {own C : String} {b : Addr} {As rest : List Value} {g : JFrame}
theorem vx_callBack (cb : CallB R s args own index y bytes maxL ret ws rm mc ms n) (hM : vx_Met l y ws rm Pc Qc XC mc ms free) (hbl : FrameBlind Pc) : vx_Back l R p e below s args y 3 8 (PreOf R mc ms Pc) (PostOf Qc mc ms free) (vx_Post XC mc ms free) := by
  obtain ⟨hrc, hrs, hfr, hlo, hws, hcw, -, hini, -⟩ := cb
  exact vx_back (bytes := bytes) (maxL := maxL) (ret := ret) hM hbl hrc hrs hfr hlo hws hcw (fun a' U hW => word_at hW (Or.inl (by first | rfl | simp [Cond.onTables, Cond.keeps, Cond.steady])) hini)
theorem vx_runV (S : CallFix p m c cc nL s args Ts own) (hM : vx_Met l y ws rm Pc Qc XC mc ms free) (cw : CallW R s args own C index y bytes maxL ret ws rm mc ms n) (hp : PreV s H C b Pc As)
    (hg : g.method = m) (hn : As.length = n) (hsize : g.locals.size = nL) (hstack : g.stack = As.reverse ++ .ref b :: rest) (hW : 2 * g.monitorRoom + (rest.map fun v => v.category).sum ≤ 8) (hdg : decode cc g.pc = .ok (.invokevirtual index, 3)) (hf : cells + mc ≤ R.cells ∧ slots + ms ≤ R.slots) :
    vx_Run p l e R s m args below meth c H locs cells slots mc ms g rest (Qc (Value.ref b :: As).toArray) XC free := by
  have hK : vx_Back l R p e below s args y 3 8 (PreOf R mc ms Pc) (PostOf Qc mc ms free) (vx_Post XC mc ms free) := vx_callBack cw.1 hM hp.1
  obtain ⟨⟨-, -, -, -, -, -, hcode, -, hy, hlen, hl⟩, hin, hse⟩ := cw
  obtain ⟨hx, hb, hml, ho, -⟩ := S
  obtain ⟨-, ⟨cellB, hcB, hoB, hclB⟩, hPc⟩ := hp
  intro T hT X
  rcases vx_callV X hx (C := C) (bytes := bytes) (maxL := maxL) (ret := ret) ho hl hin hse hcode hy hK (by rw [hT]; exact hcB) hoB hclB hg (hsize.trans hml.symm) (argsL := As) (rest := rest) (fun sig h => hn.trans (hlen sig h)) hstack hW (by rw [hb]; exact hdg)
    (fun vm₁ hW₁ => ⟨hf.1, hf.2, hPc (T.setVm vm₁) hT hW₁⟩) with ⟨v, vm₁, ⟨U', l2, c2, s2⟩, hW₁, X', ⟨g', mk, t, L, e1, e2, hq, h1, hL, h2, h3⟩, st⟩ | ⟨q, vm₁, ⟨U', l2, c2, s2⟩, hW₁, X', ⟨g', mk, t, L, E, ce, e1, e2, hq, hce, hcv, hcl, h1, hL, h2, h3⟩, st⟩
  · dsimp only [Pt.U, Pt.locs, Pt.cells, Pt.slots] at X' e1 e2 h1 h2 h3 st
    subst h1; subst h2; subst h3
    exact Or.inl ⟨v, (T.setVm vm₁).calling g' mk (Value.ref b :: As).toArray, t, U', L, hT, X', hL, e1, e2, hq, st⟩
  · dsimp only [Pt.U, Pt.locs, Pt.cells, Pt.slots] at X' e1 e2 h1 h2 h3 st hcl
    subst h1; subst h2; subst h3
    exact Or.inr ⟨q, (T.setVm vm₁).calling g' mk (Value.ref b :: As).toArray, t, U', L, E, ce, hT, X', hL, e1, e2, hq, hce, hcv, vx_cls hW₁ hcl, st⟩
theorem vx_runS (S : CallFix p m c cc nL s args Ts own) (hM : vx_Met l y ws rm Pc Qc XC mc ms free) (cw : CallB R s args own index y bytes maxL ret ws rm mc ms n ∧ (Cond.static y).before args s = true) (hp : PreS s H Pc As)
    (hg : g.method = m) (hn : As.length = n) (hsize : g.locals.size = nL) (hstack : g.stack = As.reverse ++ rest) (hW : 2 * g.monitorRoom + (rest.map fun v => v.category).sum ≤ 8) (hdg : decode cc g.pc = .ok (.invokestatic index, 3)) (hf : cells + mc ≤ R.cells ∧ slots + ms ≤ R.slots) :
    vx_Run p l e R s m args below meth c H locs cells slots mc ms g rest (Qc As.toArray) XC free := by
  have hK : vx_Back l R p e below s args y 3 8 (PreOf R mc ms Pc) (PostOf Qc mc ms free) (vx_Post XC mc ms free) := vx_callBack cw.1 hM hp.1
  obtain ⟨⟨-, -, -, -, -, -, hcode, hini, hy, hlen, hl⟩, hstt⟩ := cw
  obtain ⟨hx, hb, hml, ho, -⟩ := S
  intro T hT X
  rcases vx_callS X hx (bytes := bytes) (maxL := maxL) (ret := ret) ho hl hstt hini hcode hy hK hg (hsize.trans hml.symm) (argsL := As) (rest := rest) (fun sig h => hn.trans (hlen sig h)) hstack hW (by rw [hb]; exact hdg)
    (fun vm₁ hW₁ => ⟨hf.1, hf.2, hp.2 (T.setVm vm₁) hT hW₁⟩) with ⟨v, vm₁, ⟨U', l2, c2, s2⟩, hW₁, X', ⟨g', mk, t, L, e1, e2, hq, h1, hL, h2, h3⟩, st⟩ | ⟨q, vm₁, ⟨U', l2, c2, s2⟩, hW₁, X', ⟨g', mk, t, L, E, ce, e1, e2, hq, hce, hcv, hcl, h1, hL, h2, h3⟩, st⟩
  · dsimp only [Pt.U, Pt.locs, Pt.cells, Pt.slots] at X' e1 e2 h1 h2 h3 st
    subst h1; subst h2; subst h3
    exact Or.inl ⟨v, (T.setVm vm₁).calling g' mk As.toArray, t, U', L, hT, X', hL, e1, e2, hq, st⟩
  · dsimp only [Pt.U, Pt.locs, Pt.cells, Pt.slots] at X' e1 e2 h1 h2 h3 st hcl
    subst h1; subst h2; subst h3
    exact Or.inr ⟨q, (T.setVm vm₁).calling g' mk As.toArray, t, U', L, E, ce, hT, X', hL, e1, e2, hq, hce, hcv, vx_cls hW₁ hcl, st⟩
end Runs
section Rows
variable {p : Program} {l : Launch} {e : Env} {R : Room} {s : State} {m : MethodId} {args : Array Value} {below : List Frame} {meth : Method} {c : Code} {H : Heap} {locs : List Loc} {cells slots : Nat} {Q : State → Prop}
variable {mc ms : Nat} {free : Addr → Prop} {A0 A1 : Nat → Prop} {H0 : Heap} {a : Array Value} {pc : Nat} {ls : Array Slot} {st0 rest : List Value}
theorem vx_keep {st₀ t T' : State} {L : List Loc} (h0 : st₀.heap = H) (e1 : T'.heap = t.heap) (hS : va_S A0 H0 H locs) (hA : ∀ q, q < H.size → A1 q → A0 q) (hf : ∀ q, free q → A0 q) (hL : ∀ q ∈ L, free q.base) (hF : va_F A1 st₀ t) :
    H.size ≤ T'.heap.size ∧ (∀ q : Nat, q < H.size → ¬ A1 q → T'.heap[q]? = H[q]?) ∧ va_S A0 H0 T'.heap (locs ++ L) := by
  obtain ⟨hz, hk⟩ := hF
  rw [h0] at hz hk
  exact ⟨by rw [e1]; exact hz, fun q h1 h2 => by rw [e1]; exact hk q h1 h2,
    ⟨Nat.le_trans hS.1 (by rw [e1]; exact hz), fun q h1 h2 => by rw [e1, hk q (Nat.lt_of_lt_of_le h1 hS.1) (fun z => h2 (hA q (Nat.lt_of_lt_of_le h1 hS.1) z))]; exact hS.2.1 q h1 h2, fun q hq => by
      rcases List.mem_append.mp hq with h | h
      · exact hS.2.2 q h
      · exact hf _ (hL q h)⟩⟩
theorem vx_calli {S SX : Type} {post : Int32 → S → Prop} {px : SX → Prop} {B : S → State → Prop} {BX : String → SX → State → Prop} {AX : Nat → Prop} (hr : vx_Run p l e R s m args below meth c H locs cells slots mc ms (F0 m pc ls st0) rest (va_Qi post B A1 a) (vx_X px BX AX) free) (hS : va_S A0 H0 H locs) (hA : ∀ q, q < H.size → A1 q → A0 q) (hf : ∀ q, free q → A0 q) (hAX : ∀ q, q < H.size → AX q → A0 q)
    (kx : ∀ (E : String) (ce : Cell) (q9 : Addr) (u : SX) (t : State) (H1 : Heap) (locs1 : List Loc), t.heap = H1 → s.vm.Alike t.vm → px u → BX E u t → H.size ≤ H1.size → (∀ q : Nat, q < H.size → ¬ AX q → H1[q]? = H[q]?) → va_S A0 H0 H1 locs1 → H1[q9]? = some ce → ce.vm = .none → s.vm.findClass E = some ce.cls → vx_W p l e R s m args below meth c H1 locs1 (cells + mc) (slots + ms) Q (F0 m pc ls rest) q9)
    (kk : ∀ (r : Int32) (u : S) (t : State) (H1 : Heap) (locs1 : List Loc), t.heap = H1 → s.vm.Alike t.vm → post r u → B u t → H.size ≤ H1.size → (∀ q : Nat, q < H.size → ¬ A1 q → H1[q]? = H[q]?) → va_S A0 H0 H1 locs1 → W p l e R s m args below meth c H1 locs1 (cells + mc) (slots + ms) Q (F0 m (pc + 3) ls (.int r :: rest))) : W p l e R s m args below meth c H locs cells slots Q (F0 m pc ls st0) := by
  intro T hT X
  rcases hr T hT X with ⟨v, st₀, t, T', L, h0, X', hL, e1, e2, ⟨⟨r, u, hv, hp, hb⟩, hF⟩, st⟩ | ⟨q, st₀, t, T', L, E, ce, h0, X', hL, e1, e2, ⟨u, hp, hb, hF⟩, hce, hcv, hcl, st⟩
  · cases hv
    obtain ⟨k1, k2, k3⟩ := vx_keep h0 e1 hS hA hf hL hF
    obtain ⟨t2, a1, b1⟩ := kk r u t T'.heap (locs ++ L) e1.symm (by rw [← e2]; exact X'.warmed.alike) hp hb k1 k2 k3 T' rfl X'
    exact ⟨t2, st t2 a1, b1⟩
  · obtain ⟨k1, k2, k3⟩ := vx_keep h0 e1 hS hAX hf hL hF
    obtain ⟨t2, a1, b1⟩ := kx E ce q u t T'.heap (locs ++ L) e1.symm (by rw [← e2]; exact X'.warmed.alike) hp hb k1 k2 k3 (by rw [e1]; exact hce) hcv hcl T' rfl X'
    exact ⟨t2, st.trans a1, b1⟩
theorem vx_calll {S SX : Type} {post : Int64 → S → Prop} {px : SX → Prop} {B : S → State → Prop} {BX : String → SX → State → Prop} {AX : Nat → Prop} (hr : vx_Run p l e R s m args below meth c H locs cells slots mc ms (F0 m pc ls st0) rest (va_Ql post B A1 a) (vx_X px BX AX) free) (hS : va_S A0 H0 H locs) (hA : ∀ q, q < H.size → A1 q → A0 q) (hf : ∀ q, free q → A0 q) (hAX : ∀ q, q < H.size → AX q → A0 q)
    (kx : ∀ (E : String) (ce : Cell) (q9 : Addr) (u : SX) (t : State) (H1 : Heap) (locs1 : List Loc), t.heap = H1 → s.vm.Alike t.vm → px u → BX E u t → H.size ≤ H1.size → (∀ q : Nat, q < H.size → ¬ AX q → H1[q]? = H[q]?) → va_S A0 H0 H1 locs1 → H1[q9]? = some ce → ce.vm = .none → s.vm.findClass E = some ce.cls → vx_W p l e R s m args below meth c H1 locs1 (cells + mc) (slots + ms) Q (F0 m pc ls rest) q9)
    (kk : ∀ (r : Int64) (u : S) (t : State) (H1 : Heap) (locs1 : List Loc), t.heap = H1 → s.vm.Alike t.vm → post r u → B u t → H.size ≤ H1.size → (∀ q : Nat, q < H.size → ¬ A1 q → H1[q]? = H[q]?) → va_S A0 H0 H1 locs1 → W p l e R s m args below meth c H1 locs1 (cells + mc) (slots + ms) Q (F0 m (pc + 3) ls (.long r :: rest))) : W p l e R s m args below meth c H locs cells slots Q (F0 m pc ls st0) := by
  intro T hT X
  rcases hr T hT X with ⟨v, st₀, t, T', L, h0, X', hL, e1, e2, ⟨⟨r, u, hv, hp, hb⟩, hF⟩, st⟩ | ⟨q, st₀, t, T', L, E, ce, h0, X', hL, e1, e2, ⟨u, hp, hb, hF⟩, hce, hcv, hcl, st⟩
  · cases hv
    obtain ⟨k1, k2, k3⟩ := vx_keep h0 e1 hS hA hf hL hF
    obtain ⟨t2, a1, b1⟩ := kk r u t T'.heap (locs ++ L) e1.symm (by rw [← e2]; exact X'.warmed.alike) hp hb k1 k2 k3 T' rfl X'
    exact ⟨t2, st t2 a1, b1⟩
  · obtain ⟨k1, k2, k3⟩ := vx_keep h0 e1 hS hAX hf hL hF
    obtain ⟨t2, a1, b1⟩ := kx E ce q u t T'.heap (locs ++ L) e1.symm (by rw [← e2]; exact X'.warmed.alike) hp hb k1 k2 k3 (by rw [e1]; exact hce) hcv hcl T' rfl X'
    exact ⟨t2, st.trans a1, b1⟩
theorem vx_callf {S SX : Type} {post : UInt32 → S → Prop} {px : SX → Prop} {B : S → State → Prop} {BX : String → SX → State → Prop} {AX : Nat → Prop} (hr : vx_Run p l e R s m args below meth c H locs cells slots mc ms (F0 m pc ls st0) rest (va_Qf post B A1 a) (vx_X px BX AX) free) (hS : va_S A0 H0 H locs) (hA : ∀ q, q < H.size → A1 q → A0 q) (hf : ∀ q, free q → A0 q) (hAX : ∀ q, q < H.size → AX q → A0 q)
    (kx : ∀ (E : String) (ce : Cell) (q9 : Addr) (u : SX) (t : State) (H1 : Heap) (locs1 : List Loc), t.heap = H1 → s.vm.Alike t.vm → px u → BX E u t → H.size ≤ H1.size → (∀ q : Nat, q < H.size → ¬ AX q → H1[q]? = H[q]?) → va_S A0 H0 H1 locs1 → H1[q9]? = some ce → ce.vm = .none → s.vm.findClass E = some ce.cls → vx_W p l e R s m args below meth c H1 locs1 (cells + mc) (slots + ms) Q (F0 m pc ls rest) q9)
    (kk : ∀ (r : UInt32) (u : S) (t : State) (H1 : Heap) (locs1 : List Loc), t.heap = H1 → s.vm.Alike t.vm → post r u → B u t → H.size ≤ H1.size → (∀ q : Nat, q < H.size → ¬ A1 q → H1[q]? = H[q]?) → va_S A0 H0 H1 locs1 → W p l e R s m args below meth c H1 locs1 (cells + mc) (slots + ms) Q (F0 m (pc + 3) ls (.float r :: rest))) : W p l e R s m args below meth c H locs cells slots Q (F0 m pc ls st0) := by
  intro T hT X
  rcases hr T hT X with ⟨v, st₀, t, T', L, h0, X', hL, e1, e2, ⟨⟨r, u, hv, hp, hb⟩, hF⟩, st⟩ | ⟨q, st₀, t, T', L, E, ce, h0, X', hL, e1, e2, ⟨u, hp, hb, hF⟩, hce, hcv, hcl, st⟩
  · cases hv
    obtain ⟨k1, k2, k3⟩ := vx_keep h0 e1 hS hA hf hL hF
    obtain ⟨t2, a1, b1⟩ := kk r u t T'.heap (locs ++ L) e1.symm (by rw [← e2]; exact X'.warmed.alike) hp hb k1 k2 k3 T' rfl X'
    exact ⟨t2, st t2 a1, b1⟩
  · obtain ⟨k1, k2, k3⟩ := vx_keep h0 e1 hS hAX hf hL hF
    obtain ⟨t2, a1, b1⟩ := kx E ce q u t T'.heap (locs ++ L) e1.symm (by rw [← e2]; exact X'.warmed.alike) hp hb k1 k2 k3 (by rw [e1]; exact hce) hcv hcl T' rfl X'
    exact ⟨t2, st.trans a1, b1⟩
theorem vx_calld {S SX : Type} {post : UInt64 → S → Prop} {px : SX → Prop} {B : S → State → Prop} {BX : String → SX → State → Prop} {AX : Nat → Prop} (hr : vx_Run p l e R s m args below meth c H locs cells slots mc ms (F0 m pc ls st0) rest (va_Qd post B A1 a) (vx_X px BX AX) free) (hS : va_S A0 H0 H locs) (hA : ∀ q, q < H.size → A1 q → A0 q) (hf : ∀ q, free q → A0 q) (hAX : ∀ q, q < H.size → AX q → A0 q)
    (kx : ∀ (E : String) (ce : Cell) (q9 : Addr) (u : SX) (t : State) (H1 : Heap) (locs1 : List Loc), t.heap = H1 → s.vm.Alike t.vm → px u → BX E u t → H.size ≤ H1.size → (∀ q : Nat, q < H.size → ¬ AX q → H1[q]? = H[q]?) → va_S A0 H0 H1 locs1 → H1[q9]? = some ce → ce.vm = .none → s.vm.findClass E = some ce.cls → vx_W p l e R s m args below meth c H1 locs1 (cells + mc) (slots + ms) Q (F0 m pc ls rest) q9)
    (kk : ∀ (r : UInt64) (u : S) (t : State) (H1 : Heap) (locs1 : List Loc), t.heap = H1 → s.vm.Alike t.vm → post r u → B u t → H.size ≤ H1.size → (∀ q : Nat, q < H.size → ¬ A1 q → H1[q]? = H[q]?) → va_S A0 H0 H1 locs1 → W p l e R s m args below meth c H1 locs1 (cells + mc) (slots + ms) Q (F0 m (pc + 3) ls (.double r :: rest))) : W p l e R s m args below meth c H locs cells slots Q (F0 m pc ls st0) := by
  intro T hT X
  rcases hr T hT X with ⟨v, st₀, t, T', L, h0, X', hL, e1, e2, ⟨⟨r, u, hv, hp, hb⟩, hF⟩, st⟩ | ⟨q, st₀, t, T', L, E, ce, h0, X', hL, e1, e2, ⟨u, hp, hb, hF⟩, hce, hcv, hcl, st⟩
  · cases hv
    obtain ⟨k1, k2, k3⟩ := vx_keep h0 e1 hS hA hf hL hF
    obtain ⟨t2, a1, b1⟩ := kk r u t T'.heap (locs ++ L) e1.symm (by rw [← e2]; exact X'.warmed.alike) hp hb k1 k2 k3 T' rfl X'
    exact ⟨t2, st t2 a1, b1⟩
  · obtain ⟨k1, k2, k3⟩ := vx_keep h0 e1 hS hAX hf hL hF
    obtain ⟨t2, a1, b1⟩ := kx E ce q u t T'.heap (locs ++ L) e1.symm (by rw [← e2]; exact X'.warmed.alike) hp hb k1 k2 k3 (by rw [e1]; exact hce) hcv hcl T' rfl X'
    exact ⟨t2, st.trans a1, b1⟩
theorem vx_callv {S SX : Type} {post : S → Prop} {px : SX → Prop} {B : S → State → Prop} {BX : String → SX → State → Prop} {AX : Nat → Prop} (hr : vx_Run p l e R s m args below meth c H locs cells slots mc ms (F0 m pc ls st0) rest (va_Qv post B A1 a) (vx_X px BX AX) free) (hS : va_S A0 H0 H locs) (hA : ∀ q, q < H.size → A1 q → A0 q) (hf : ∀ q, free q → A0 q) (hAX : ∀ q, q < H.size → AX q → A0 q)
    (kx : ∀ (E : String) (ce : Cell) (q9 : Addr) (u : SX) (t : State) (H1 : Heap) (locs1 : List Loc), t.heap = H1 → s.vm.Alike t.vm → px u → BX E u t → H.size ≤ H1.size → (∀ q : Nat, q < H.size → ¬ AX q → H1[q]? = H[q]?) → va_S A0 H0 H1 locs1 → H1[q9]? = some ce → ce.vm = .none → s.vm.findClass E = some ce.cls → vx_W p l e R s m args below meth c H1 locs1 (cells + mc) (slots + ms) Q (F0 m pc ls rest) q9)
    (kk : ∀ (u : S) (t : State) (H1 : Heap) (locs1 : List Loc), t.heap = H1 → s.vm.Alike t.vm → post u → B u t → H.size ≤ H1.size → (∀ q : Nat, q < H.size → ¬ A1 q → H1[q]? = H[q]?) → va_S A0 H0 H1 locs1 → W p l e R s m args below meth c H1 locs1 (cells + mc) (slots + ms) Q (F0 m (pc + 3) ls (rest))) : W p l e R s m args below meth c H locs cells slots Q (F0 m pc ls st0) := by
  intro T hT X
  rcases hr T hT X with ⟨v, st₀, t, T', L, h0, X', hL, e1, e2, ⟨⟨u, hv, hp, hb⟩, hF⟩, st⟩ | ⟨q, st₀, t, T', L, E, ce, h0, X', hL, e1, e2, ⟨u, hp, hb, hF⟩, hce, hcv, hcl, st⟩
  · cases hv
    obtain ⟨k1, k2, k3⟩ := vx_keep h0 e1 hS hA hf hL hF
    obtain ⟨t2, a1, b1⟩ := kk u t T'.heap (locs ++ L) e1.symm (by rw [← e2]; exact X'.warmed.alike) hp hb k1 k2 k3 T' rfl X'
    exact ⟨t2, st t2 a1, b1⟩
  · obtain ⟨k1, k2, k3⟩ := vx_keep h0 e1 hS hAX hf hL hF
    obtain ⟨t2, a1, b1⟩ := kx E ce q u t T'.heap (locs ++ L) e1.symm (by rw [← e2]; exact X'.warmed.alike) hp hb k1 k2 k3 (by rw [e1]; exact hce) hcv hcl T' rfl X'
    exact ⟨t2, st.trans a1, b1⟩
/-- caught by the row x of this method's table; the rows ahead don't take it -/
theorem vx_catch {own name : String} {E : String} {ce : Cell} {q : Addr} (hown : s.vm.findClass own = some m.cls) (pre : List ExceptionTableEntry) (x : ExceptionTableEntry) (suf : List ExceptionTableEntry) (hsplit : c.exceptionTable.toList = pre ++ x :: suf)
    (hpass : ∀ z ∈ pre, covers z pc = false ∨ (z.catchType ≠ 0 ∧ ∃ nm : String, (Cond.classLink own z.catchType nm).before args s = true ∧ va_Nc E nm s)) (hx : covers x pc = true) (h0 : x.catchType ≠ 0)
    (hlink : (Cond.classLink own x.catchType name).before args s = true) (hcast : (Cond.castable E name).before args s = true) (hcell : H[q]? = some ce) (hv : ce.vm = .none) (hcl : s.vm.findClass E = some ce.cls)
    (kk : W p l e R s m args below meth c H locs cells slots Q (F0 m x.handlerPc ls [.ref q])) : vx_W p l e R s m args below meth c H locs cells slots Q (F0 m pc ls rest) q := by
  intro T hT X
  have hpl : e.platform.magicAccessors = ({} : Platform).magicAccessors := by rw [X.admits.platform]
  obtain ⟨c3, c4, hc3, hc4, hasg⟩ := Cond.castable_spec hcast
  cases Option.some.inj (hc3.symm.trans hcl)
  obtain ⟨c5, hc5, hcl5⟩ := Cond.classLink_spec hown hlink e.platform hpl
  cases Option.some.inj (hc4.symm.trans hc5)
  obtain ⟨vm', X', st⟩ := X.thenCaughtThrough q (g := F0 m pc ls rest) rfl (Steps.refl _) (by rw [hT]; exact hcell) (by rw [hv]; rfl) (by obtain ⟨k9, h9, -⟩ := Vm.findClass_spec hcl; exact ⟨k9, h9⟩) pre x suf hsplit
    (fun z hz => by
      rcases hpass z hz with h | ⟨hz0, nm, hl1, hn1⟩
      · exact Or.inl h
      · obtain ⟨c6, hc6, hcl6⟩ := Cond.classLink_spec hown hl1 e.platform hpl
        obtain ⟨a8, b8, h1, h2, h3⟩ := hn1
        cases Option.some.inj (h1.symm.trans hcl)
        cases Option.some.inj (h2.symm.trans hc6)
        exact Or.inr ⟨hz0, _, hcl6, h3⟩) hx (Or.inr ⟨h0, c4, hcl5, hasg⟩)
  obtain ⟨t, a1, b1⟩ := kk (T.setVm vm') hT X'
  exact ⟨t, st.trans a1, b1⟩
end Rows
section Ends
variable {p : Program} {l : Launch} {e : Env} {R : Room} {s : State} {m : MethodId} {args : Array Value} {below : List Frame} {meth : Method} {c : Code} {H : Heap} {locs : List Loc} {cells slots : Nat} {Q : State → Prop}
variable {mc ms : Nat} {free : Addr → Prop} {A0 A1 : Nat → Prop} {H0 : Heap} {a : Array Value} {ls : Array Slot} {st0 rest : List Value}
variable {Qc : Array Value → State → Outcome → State → Prop} {XC : String → State → State → Prop}
/-- what a body that may throw owes at its end -/
def vx_MQ (below : List Frame) (Qc : Array Value → State → Outcome → State → Prop) (XC : String → State → State → Prop) (a : Array Value) (s : State) (mc ms : Nat) (free : Addr → Prop) : State → Prop := fun t =>
  ∃ o, t.status = .running ∧ Ended t below o ∧ vx_Q Qc XC mc ms free a s o t
theorem vx_ret {g : JFrame} {mc ms : Nat} (k : W p l e R s m args below meth c H locs cells slots (MQ below Qc args s mc ms free) g) : W p l e R s m args below meth c H locs cells slots (vx_MQ below Qc XC args s mc ms free) g := by
  intro T hT X
  obtain ⟨t, a1, o, b1, b2, b3, b4⟩ := k T hT X
  exact ⟨t, a1, o, b1, b2, Or.inl ⟨b3, b4⟩⟩
/-- not caught here: it goes on to the caller -/
theorem vx_widen {g : JFrame} {q : Addr} {k n : Nat} (h1 : cells ≤ k) (h2 : slots ≤ n) (kk : vx_W p l e R s m args below meth c H locs k n Q g q) : vx_W p l e R s m args below meth c H locs cells slots Q g q := fun T hT X => kk T hT (stand_widen X h1 h2)
theorem vx_out {pc : Nat} {E : String} {ce : Cell} {q : Addr} {mc ms : Nat} (hout : ∀ x ∈ c.exceptionTable.toList, covers x pc = false) (hlocks : meth.locks = false) (hcell : H[q]? = some ce) (hv : ce.vm = .none) (hcl : s.vm.findClass E = some ce.cls)
    (hx : ∀ t : State, t.heap = H → s.vm.Alike t.vm → XC E s t) (hf : ∀ z ∈ locs, free z.base) (hc : cells ≤ mc) (hs : slots ≤ ms) :
    vx_W p l e R s m args below meth c H locs cells slots (vx_MQ below Qc XC args s mc ms free) (F0 m pc ls rest) q := by
  intro T hT X
  obtain ⟨st1, hrun, hend, hW, hsm⟩ := X.leaveThrown q (g := F0 m pc ls rest) rfl rfl rfl hout hlocks
  have hcell9 : (T.setFrames (.throwing q :: below)).heap[q]? = some ce := by
    show T.heap[q]? = some ce
    rw [hT]; exact hcell
  exact ⟨_, st1, .threw q, hrun, hend, Or.inr ⟨q, rfl, E, ce, locs, hx _ hT hW.alike, hcell9, hv, hcl, hW, hsm.mono hc hs, hf⟩⟩
theorem vx_frame {U : State} {k n : Nat} (h : s.sameButNew ({ U with vm := s.vm } : State) locs k n) : s.heap.size ≤ U.heap.size ∧ ∀ q : Nat, q < s.heap.size → (∀ z ∈ locs, z.base ≠ q) → U.heap[q]? = s.heap[q]? := by
  obtain ⟨-, h2, -, -, -, h6⟩ := h
  refine ⟨h2, fun q hq hz => ?_⟩
  obtain ⟨c9, e1, e2, e3, e4⟩ := h6 q _ (Array.getElem?_eq_getElem hq)
  have hs : c9.slots = (s.heap[q]).slots := Array.ext_getElem? fun i => e4 i fun hm => hz _ hm rfl
  have h9 : c9 = s.heap[q] := by
    rw [hs] at e2
    exact e2
  have e5 : U.heap[q]? = some c9 := e1
  rw [e5, h9, Array.getElem?_eq_getElem hq]
/-- the words of a throw but the four that speak of the heap -/
def vx_no (w : Cond) : Bool := decide (w ≠ .isRef (.static Bundle.tN "UNASSIGNED_STACK" Bundle.steD)) && decide (w ≠ .isRef (.static Bundle.tN "SUPPRESSED_SENTINEL" Bundle.listD)) && decide (w ≠ .laysStatic Bundle.tN "UNASSIGNED_STACK" Bundle.steD) && decide (w ≠ .laysStatic Bundle.tN "SUPPRESSED_SENTINEL" Bundle.listD)
def vx_at0 (own : String) (ic : Nat) (X : String) (names : List String) : List Cond := (Bundle.ownAtoms0 own ic X names).filter vx_no
def vx_atS (own : String) (ic : Nat) (X : String) (names : List String) : List Cond := (Bundle.ownAtoms own ic X names).filter vx_no
/-- a word that the tables alone decide, or a good one -/
def vx_ot (w : Cond) : Bool := w.onTables || goodWord w
theorem vx_ot_at {args a' : Array Value} {s U : State} {w : Cond} (hW : s.WarmedH U.vm) (hvm : s.vm = U.vm) (hg : vx_ot w = true) (h : w.before args s = true) : w.before a' U = true := by
  simp only [vx_ot, Bool.or_eq_true] at hg
  rcases hg with hg | hg
  · exact va_tabs hg hvm h
  · exact word_at hW (good_of_word hg) h
/-- a list's words: the good ones out of the method's own list, the others by premises of their own -/
theorem vx_hat {args : Array Value} {s : State} {L B : List Cond} (h1 : ∀ w ∈ L.filter goodWord, w.before args s = true) (h2 : ∀ w ∈ L.filter (fun w => !goodWord w), w ∈ B) (h3 : ∀ w ∈ B, w.before args s = true) : ∀ w ∈ L, w.before args s = true := by
  intro w hw
  by_cases g : goodWord w = true
  · exact h1 w (List.mem_filter.mpr ⟨hw, g⟩)
  · refine h3 w (h2 w (List.mem_filter.mpr ⟨hw, ?_⟩))
    show (!goodWord w) = true
    cases hgw : goodWord w
    · rfl
    · exact absurd hgw g
theorem vx_c {args : Array Value} {s : State} {w : Cond} {B : List Cond} (h : w.before args s = true) (t : ∀ w ∈ B, w.before args s = true) : ∀ w' ∈ w :: B, w'.before args s = true := fun w' h' => (List.mem_cons.mp h').elim (fun e => by rw [e]; exact h) (t w')
theorem vx_n {args : Array Value} {s : State} : ∀ w ∈ ([] : List Cond), w.before args s = true := fun _ h => nomatch h
theorem vx_own {args : Array Value} {s : State} {L : List Cond} (h1 : ∀ w ∈ L.filter vx_no, w.before args s = true)
    (hU : (Cond.isRef (.static Bundle.tN "UNASSIGNED_STACK" Bundle.steD)).before args s = true) (hN : (Cond.isRef (.static Bundle.tN "SUPPRESSED_SENTINEL" Bundle.listD)).before args s = true)
    (lU : (Cond.laysStatic Bundle.tN "UNASSIGNED_STACK" Bundle.steD).before args s = true) (lN : (Cond.laysStatic Bundle.tN "SUPPRESSED_SENTINEL" Bundle.listD).before args s = true) : ∀ w ∈ L, w.before args s = true := by
  intro w hw
  by_cases e1 : w = .isRef (.static Bundle.tN "UNASSIGNED_STACK" Bundle.steD)
  · rw [e1]; exact hU
  · by_cases e2 : w = .isRef (.static Bundle.tN "SUPPRESSED_SENTINEL" Bundle.listD)
    · rw [e2]; exact hN
    · by_cases e3 : w = .laysStatic Bundle.tN "UNASSIGNED_STACK" Bundle.steD
      · rw [e3]; exact lU
      · by_cases e4 : w = .laysStatic Bundle.tN "SUPPRESSED_SENTINEL" Bundle.listD
        · rw [e4]; exact lN
        · exact h1 w (List.mem_filter.mpr ⟨hw, by unfold vx_no; rw [decide_eq_true e1, decide_eq_true e2, decide_eq_true e3, decide_eq_true e4]; rfl⟩)
/-- where a static field lies, its class's statics cell in H -/
def vx_L (C n d : String) (A : Nat → Prop) (U : State) (H : Heap) : Prop := ∃ (c : ClassId) (k : Class) (i : Nat) (f : Field) (a : Nat) (cell : Cell), U.vm.findClass C = some c ∧ U.fieldFound? C n d = some (c, k, i, f) ∧ f.isStatic = true ∧ k.statics = some a ∧ H[a]? = some cell ∧ cell.vm.isStatics = true ∧ cell.cls = c ∧ f.slot < cell.slots.size ∧ k.staticTypes[f.slot]? = some f.type ∧ ¬ A a
theorem vx_L.moved {C n d : String} {A : Nat → Prop} {u U : State} {H : Heap} (hvm : u.vm.Alike U.vm) (h : vx_L C n d A u H) : vx_L C n d A U H := by
  obtain ⟨c, k, i, f, a, cell, h1, h2, h3, h4, h5, h6, h7, h8, h9, h10⟩ := h
  obtain ⟨k', hi', he⟩ := State.fieldFound?_setVm hvm h2
  exact ⟨c, k', i, f, a, cell, by rw [hvm.findClass]; exact h1, hi', h3, by rw [he]; exact h4, h5, h6, h7, h8, by rw [he]; exact h9, h10⟩
theorem vx_L.kept {C n d : String} {A : Nat → Prop} {U : State} {H H1 : Heap} (h : vx_L C n d A U H) (hq : ∀ a : Nat, a < H.size → ¬ A a → H1[a]? = H[a]?) : vx_L C n d A U H1 := by
  obtain ⟨c, k, i, f, a, cell, h1, h2, h3, h4, h5, h6, h7, h8, h9, h10⟩ := h
  exact ⟨c, k, i, f, a, cell, h1, h2, h3, h4, by rw [hq a (Array.getElem?_eq_some_iff.mp h5).1 h10]; exact h5, h6, h7, h8, h9, h10⟩
theorem vx_L.narrow {C n d : String} {A B : Nat → Prop} {U : State} {H : Heap} (h : vx_L C n d A U H) (hAB : ∀ q, B q → A q) : vx_L C n d B U H := by
  obtain ⟨c, k, i, f, a, cell, h1, h2, h3, h4, h5, h6, h7, h8, h9, h10⟩ := h
  exact ⟨c, k, i, f, a, cell, h1, h2, h3, h4, h5, h6, h7, h8, h9, fun z => h10 (hAB _ z)⟩
theorem vx_L.word {C n d : String} {A : Nat → Prop} {s : State} {args : Array Value} (h : vx_L C n d A s s.heap) : (Cond.laysStatic C n d).before args s = true := by
  obtain ⟨c, k, i, f, a, cell, h1, h2, h3, h4, h5, h6, h7, h8, h9, -⟩ := h
  show (Cond.laysStatic C n d).holds args s none s [] = true
  exact Cond.laysStatic_of h1 h2 h3 h4 h5 h6 h7 h8 h9
/-- .. and what it holds: null or some reference -/
def vx_Zq (C n d : String) (A : Nat → Prop) (U : State) (H : Heap) : Prop := va_Zq C n d A U H ∧ vx_L C n d A U H
theorem vx_Zq.moved {C n d : String} {A : Nat → Prop} {u U : State} {H : Heap} (hvm : u.vm.Alike U.vm) (h : vx_Zq C n d A u H) : vx_Zq C n d A U H := ⟨va_Zq.moved hvm h.1, vx_L.moved hvm h.2⟩
theorem vx_Zq.kept {C n d : String} {A : Nat → Prop} {U : State} {H H1 : Heap} (h : vx_Zq C n d A U H) (hq : ∀ a : Nat, a < H.size → ¬ A a → H1[a]? = H[a]?) : vx_Zq C n d A U H1 := ⟨va_Zq.kept h.1 hq, vx_L.kept h.2 hq⟩
theorem vx_Zq.narrow {C n d : String} {A B : Nat → Prop} {U : State} {H : Heap} (h : vx_Zq C n d A U H) (hAB : ∀ q, B q → A q) : vx_Zq C n d B U H := ⟨va_Zq.narrow h.1 hAB, vx_L.narrow h.2 hAB⟩
theorem vx_Zqof {args : Array Value} {s : State} {C n d : String} {A : Nat → Prop} (hl : (Cond.laysStatic C n d).before args s = true) (hini : (Cond.initialized C).before args s = true) (h : (Cond.isRef (.static C n d)).before args s = true) (hA : ∀ a : Nat, a < s.heap.size → ¬ A a) : vx_Zq C n d A s s.heap := by
  refine ⟨va_Zqof hl hini h hA, ?_⟩
  obtain ⟨c, k, i, f, a, cell, h1, h2, h3, h4, h5, h6, h7, h8, h9⟩ := Cond.laysStatic_spec hl
  exact ⟨c, k, i, f, a, cell, h1, h2, h3, h4, h5, h6, h7, h8, h9, hA a (Array.getElem?_eq_some_iff.mp h5).1⟩
theorem vx_isRef {C n d : String} {v : Value} {A : Nat → Prop} {s : State} {args : Array Value} (h : va_Z C n d v A s s.heap) (hv : v.isRef = true) : (Cond.isRef (.static C n d)).before args s = true := by
  obtain ⟨cf, kf, fi, f, a, cell, h1, h2, h3, h4, h5, h6, h7, -⟩ := h
  have he : (Term.static C n d).eval args s none [] s = some v := by
    simp [Term.eval, State.fieldNamed?, h1, h2, h4, h5, h6, h7]
  simp only [Cond.before, Cond.holds, Cond.value, he]
  cases v <;> simp_all [Value.isRef]
theorem vx_isRefq {C n d : String} {A : Nat → Prop} {s : State} {args : Array Value} (h : va_Zq C n d A s s.heap) : (Cond.isRef (.static C n d)).before args s = true := by
  rcases h with h | ⟨t, h⟩
  · exact vx_isRef h rfl
  · exact vx_isRef h rfl
/-- the same frame, seen from here: as if the method were called anew in this heap -/
theorem vx_rebase {T : State} (X : Stand p l e R s m args below meth c T locs cells slots) {R' : Room} (hf : R'.frames ≤ R.frames) (hl : R'.locals ≤ R.locals) (hc : cells + R'.cells ≤ R.cells) (hs : slots + R'.slots ≤ R.slots) :
    Stand p l e R' ((T.setVm s.vm).setFrames (.invoking m args :: below)) m args below meth c T [] 0 0 := by
  have htop : (T.setVm s.vm).topJava?.isSome := X.here.top
  have hF : ((T.setVm s.vm).setFrames (.invoking m args :: below)).frames = .invoking m args :: below := State.frames_setFrames _ (State.cur_lt_of_top htop)
  obtain ⟨g₀, hg0⟩ := Option.isSome_iff_exists.mp htop
  obtain ⟨r, hr⟩ := State.topJava?_eq_some.mp hg0
  have hl9 : e.platform.stackLimits (T.setVm s.vm).me = e.platform.stackLimits s.me := X.limits
  have hb9 : (T.setVm s.vm).me.stackBytes = s.me.stackBytes := X.bytes
  refine ⟨X.admits, X.cas, X.clock, hF, ?_, X.hears, X.method, X.code, X.here, X.tail, X.warmed, ?_, ?_, ?_⟩
  · have h := X.room
    have hU : ((T.setVm s.vm).setFrames (.invoking m args :: below)).localsInUse = s.localsInUse := by
      rw [State.localsInUse_invoking hF (meth := meth) (c := c) X.method X.code, State.localsInUse_invoking X.frames X.method X.code]
    simp only [State.hasRoom, Bool.and_eq_true, decide_eq_true_eq] at h ⊢
    obtain ⟨⟨⟨⟨h1, h2, h3, h4, h5, h6⟩, h7⟩, h8⟩, h9⟩ := h
    rw [X.frames, List.length_cons] at h2 h3
    have q1 := X.heapSize
    have q2 := X.used
    simp only [hF, hU, List.length_cons, State.stackLimits_setFrames, State.stackBytes_setFrames, hl9, hb9]
    refine ⟨⟨⟨⟨by omega, by omega, by omega, by omega, by omega, h6⟩, ?_⟩, ?_⟩, X.book⟩
    · show T.heap.size + R'.cells ≤ e.platform.maxCells
      omega
    · show T.slotsUsed + R'.slots ≤ e.platform.maxSlots
      omega
  · rw [State.stackLimits_setFrames]; rfl
  · rw [State.stackBytes_setFrames]; rfl
  · refine ⟨?_, Nat.le_refl _, Nat.le_refl _, ?_, ?_, fun a c9 h9 => ⟨c9, h9, rfl, rfl, fun _ _ => rfl⟩⟩
    · obtain ⟨t, ht, -⟩ := State.frames_cons hr
      show T.setVm s.vm = { ((T.setVm s.vm).setFrames (.invoking m args :: below)).setFrames (T.setVm s.vm).frames with heap := T.heap, slotsUsed := T.slotsUsed }
      rw [State.setFrames_setFrames, State.setFrames_self ht]
      rfl
    · show T.slotsUsed = T.slotsUsed + ((T.heap.toList.drop T.heap.size).map (·.slots.size)).sum
      rw [List.drop_eq_nil_of_le (Nat.le_of_eq Array.length_toList)]
      rfl
    · show ((T.heap.toList.drop T.heap.size).map (·.slots.size)).sum ≤ 0
      rw [List.drop_eq_nil_of_le (Nat.le_of_eq Array.length_toList)]
      exact Nat.le_refl _
/-- 'throw new E()': new; dup; invokespecial; athrow -/
theorem vx_throw0 {cc : ByteArray} {pc : Nat} (hexec : p.tables.exec = Jvm.exec) (hb : c.code = cc) (hl : l.stackTraces = false) {own cls : String} {names : List String} {ik ic mc ms : Nat} {A : Nat → Prop}
    (hown : s.vm.findClass own = some m.cls) (hcls : Bundle.fit cls = true) (hnames : ∀ n ∈ names, Bundle.fit n = true)
    (hk : (Cond.classLink own ik cls).before args s = true) (hini : (Cond.initialized cls).before args s = true) (hat : ∀ w ∈ vx_at0 own ic cls names, w.before args s = true)
    (hgood : ∀ w ∈ Cond.classLink own ik cls :: Cond.initialized cls :: vx_at0 own ic cls names, vx_ot w = true)
    (hU : vx_Zq Bundle.tN "UNASSIGNED_STACK" Bundle.steD A s s.heap) (hN : vx_Zq Bundle.tN "SUPPRESSED_SENTINEL" Bundle.listD A s s.heap) (hS : va_S A s.heap H locs) (hsize : ls.size = c.maxLocals)
    (d0 : decode cc pc = .ok (.new ik, 3)) (d3 : decode cc (pc + 3) = .ok (.dup, 1)) (d4 : decode cc (pc + 4) = .ok (.invokespecial ic, 3)) (d7 : decode cc (pc + 7) = .ok (.athrow, 1))
    (hout : ∀ x ∈ c.exceptionTable.toList, covers x (pc + 7) = false)
    (hRframes : names.length + 3 < R.frames) (hRlocals : (rest.map fun v => v.category).sum + (13 * (names.length + 1) + 42) ≤ R.locals) (hRcells : cells + 1 ≤ R.cells) (hRslots : slots + 6 ≤ R.slots) (hlocks : meth.locks = false)
    (hx : ∀ t : State, s.vm.Alike t.vm → H.size ≤ t.heap.size → (∀ q : Nat, q < H.size → t.heap[q]? = H[q]?) → XC cls s t)
    (hf : ∀ z ∈ locs, free z.base) (hc : cells + 1 ≤ mc) (hs : slots + 6 ≤ ms) :
    W p l e R s m args below meth c H locs cells slots (vx_MQ below Qc XC args s mc ms free) (F0 m pc ls rest) := by
  intro T hT X
  have htr : e.platform.stackTraces = false := (show e.platform.stackTraces = l.stackTraces by rw [X.admits.platform]).trans hl
  have Y := vx_rebase X (R' := { frames := R.frames, locals := R.locals, cells := 1, slots := 6 }) (Nat.le_refl _) (Nat.le_refl _) hRcells hRslots
  obtain ⟨s', hA⟩ : ∃ z, z = (T.setVm s.vm).setFrames (.invoking m args :: below) := ⟨_, rfl⟩
  rw [← hA] at Y
  have hvm : s'.vm = s.vm := by rw [hA]; rfl
  have hhp : s'.heap = H := by rw [hA]; exact hT
  have hW0 : s.WarmedH s'.vm := by rw [hvm]; exact State.WarmedH.refl s
  have hat' : ∀ w ∈ vx_at0 own ic cls names, w.before args s' = true := fun w hw => vx_ot_at hW0 hvm.symm (hgood w (List.mem_cons_of_mem _ (List.mem_cons_of_mem _ hw))) (hat w hw)
  have hk' : (Cond.classLink own ik cls).before args s' = true := vx_ot_at hW0 hvm.symm (hgood _ List.mem_cons_self) hk
  have hini' : (Cond.initialized cls).before args s' = true := vx_ot_at hW0 hvm.symm (hgood _ (List.mem_cons_of_mem _ List.mem_cons_self)) hini
  have hU' : vx_Zq Bundle.tN "UNASSIGNED_STACK" Bundle.steD A s' s'.heap := by rw [hhp]; exact vx_Zq.moved hW0.alike (hU.kept hS.2.1)
  have hN' : vx_Zq Bundle.tN "SUPPRESSED_SENTINEL" Bundle.listD A s' s'.heap := by rw [hhp]; exact vx_Zq.moved hW0.alike (hN.kept hS.2.1)
  have h : ∀ w ∈ Bundle.ownAtoms0 own ic cls names, w.before args s' = true := vx_own hat' (vx_isRefq hU'.1) (vx_isRefq hN'.1) hU'.2.word hN'.2.word
  have hown' : s'.vm.findClass own = some m.cls := by rw [hvm]; exact hown
  have hins : (Cond.instantiable cls 6).before args s' = true := h _ (by simp [Bundle.ownAtoms0])
  obtain ⟨vm₁, cX, kX, hfX, hkX, -, -, X₁, st1⟩ := Y.newCold hexec (own := own) (C := cls) (index := ik) (n := 6) hown' hk' hins hini'
    (g := F0 m pc ls rest) rfl (by rw [hb]; exact d0) (Nat.le_refl _) (Nat.le_refl _)
  generalize hT1 : (T.setVm vm₁).pushCell { cls := cX, slots := kX.instanceTypes.map defaultValue, vm := .none } = T1 at X₁ st1
  have hcat : (Value.ref T.heap.size).category = 1 := rfl
  have hcellA : T1.heap[T.heap.size]? = some (freshCell cX kX) := by rw [← hT1]; exact State.heap_pushCell_size _ _
  have d3' : decode c.code (pc + 3) = .ok (.dup, 1) := by rw [hb]; exact d3
  obtain ⟨U, hsteps, hrun, hend, hW, hsame, ce, hce, hO⟩ := X₁.ctorThrow0 hexec htr (own := own) (cls := cls) (names := names) (ic := ic) hown' hcls hnames h (fun x hx => nomatch hx) hfX hkX hcellA (by rw [hhp, hT]; exact Nat.le_refl _)
    (g := { method := m, pc := pc + 4, locals := ls, stack := .ref T.heap.size :: .ref T.heap.size :: rest, locked := none }) rfl hsize rfl rfl (rest := rest) rfl
    (by rw [hb]; exact d4) (by rw [hb]; exact d7) hout hRframes (by simp only [List.map_cons, List.sum_cons, hcat]; omega) hlocks
  obtain ⟨f1, f2⟩ := vx_frame hsame
  rw [hhp] at f1 f2
  have hWs : s.WarmedH U.vm := State.WarmedH.trans hW0 hW
  have hcl : s.vm.findClass cls = some ce.cls := by
    have h9 := hO.cls
    rw [hvm] at h9
    exact h9
  have hall : s.sameButNew ({ U with vm := s.vm } : State) locs mc ms := by
    subst hA
    obtain ⟨e1, e2⟩ := hsame
    rw [State.setFrames_setFrames] at e1
    have h2 : (T.setVm s.vm).sameButNew ({ U with vm := s.vm } : State) [] (0 + 1) (0 + 6) := ⟨e1, e2⟩
    have h3 := X.same.trans h2
    rw [List.append_nil] at h3
    exact h3.mono hc hs
  refine ⟨U, ?_, .threw T.heap.size, hrun, hend, Or.inr ⟨T.heap.size, rfl, cls, ce, locs, hx U hWs.alike f1 (fun q hq => f2 q hq (fun z hz => nomatch hz)), hce, hO.vm, hcl, hWs, hall, hf⟩⟩
  refine st1 _ ?_
  show Steps p.tables e below (T1.setTop { method := m, pc := pc + 3, locals := ls, stack := .ref T.heap.size :: rest, locked := none }) _
  jvm_step X₁.here [X₁.here.top, hexec, d3', Value.category]
  exact hsteps
/-- 'throw new E("text")': new; dup; ldc; invokespecial; athrow -/
theorem vx_throwS {cc : ByteArray} {pc : Nat} (hexec : p.tables.exec = Jvm.exec) (hb : c.code = cc) (hl : l.stackTraces = false) {own cls text : String} {names : List String} {ik is ic mc ms sa : Nat} {A : Nat → Prop}
    (hown : s.vm.findClass own = some m.cls) (hcls : Bundle.fit cls = true) (hnames : ∀ n ∈ names, Bundle.fit n = true)
    (hk : (Cond.classLink own ik cls).before args s = true) (hini : (Cond.initialized cls).before args s = true) (hstr : vk_R own is text sa s) (hat : ∀ w ∈ vx_atS own ic cls names, w.before args s = true)
    (hgood : ∀ w ∈ Cond.classLink own ik cls :: Cond.initialized cls :: vx_atS own ic cls names, vx_ot w = true)
    (hU : vx_Zq Bundle.tN "UNASSIGNED_STACK" Bundle.steD A s s.heap) (hN : vx_Zq Bundle.tN "SUPPRESSED_SENTINEL" Bundle.listD A s s.heap) (hS : va_S A s.heap H locs) (hsize : ls.size = c.maxLocals)
    (d0 : decode cc pc = .ok (.new ik, 3)) (d3 : decode cc (pc + 3) = .ok (.dup, 1)) (d4 : decode cc (pc + 4) = .ok (.ldc is, 2)) (d6 : decode cc (pc + 6) = .ok (.invokespecial ic, 3)) (d9 : decode cc (pc + 9) = .ok (.athrow, 1))
    (hout : ∀ x ∈ c.exceptionTable.toList, covers x (pc + 9) = false)
    (hRframes : names.length + 3 < R.frames) (hRlocals : (rest.map fun v => v.category).sum + (13 * (names.length + 1) + 43) ≤ R.locals) (hRcells : cells + 1 ≤ R.cells) (hRslots : slots + 6 ≤ R.slots) (hlocks : meth.locks = false)
    (hx : ∀ t : State, s.vm.Alike t.vm → H.size ≤ t.heap.size → (∀ q : Nat, q < H.size → t.heap[q]? = H[q]?) → XC cls s t)
    (hf : ∀ z ∈ locs, free z.base) (hc : cells + 1 ≤ mc) (hs : slots + 6 ≤ ms) :
    W p l e R s m args below meth c H locs cells slots (vx_MQ below Qc XC args s mc ms free) (F0 m pc ls rest) := by
  intro T hT X
  have htr : e.platform.stackTraces = false := (show e.platform.stackTraces = l.stackTraces by rw [X.admits.platform]).trans hl
  have Y := vx_rebase X (R' := { frames := R.frames, locals := R.locals, cells := 1, slots := 6 }) (Nat.le_refl _) (Nat.le_refl _) hRcells hRslots
  obtain ⟨s', hA⟩ : ∃ z, z = (T.setVm s.vm).setFrames (.invoking m args :: below) := ⟨_, rfl⟩
  rw [← hA] at Y
  have hvm : s'.vm = s.vm := by rw [hA]; rfl
  have hhp : s'.heap = H := by rw [hA]; exact hT
  have hW0 : s.WarmedH s'.vm := by rw [hvm]; exact State.WarmedH.refl s
  have hat' : ∀ w ∈ vx_atS own ic cls names, w.before args s' = true := fun w hw => vx_ot_at hW0 hvm.symm (hgood w (List.mem_cons_of_mem _ (List.mem_cons_of_mem _ hw))) (hat w hw)
  have hk' : (Cond.classLink own ik cls).before args s' = true := vx_ot_at hW0 hvm.symm (hgood _ List.mem_cons_self) hk
  have hini' : (Cond.initialized cls).before args s' = true := vx_ot_at hW0 hvm.symm (hgood _ (List.mem_cons_of_mem _ List.mem_cons_self)) hini
  have hU' : vx_Zq Bundle.tN "UNASSIGNED_STACK" Bundle.steD A s' s'.heap := by rw [hhp]; exact vx_Zq.moved hW0.alike (hU.kept hS.2.1)
  have hN' : vx_Zq Bundle.tN "SUPPRESSED_SENTINEL" Bundle.listD A s' s'.heap := by rw [hhp]; exact vx_Zq.moved hW0.alike (hN.kept hS.2.1)
  have h : ∀ w ∈ Bundle.ownAtoms own ic cls names, w.before args s' = true := vx_own hat' (vx_isRefq hU'.1) (vx_isRefq hN'.1) hU'.2.word hN'.2.word
  have hown' : s'.vm.findClass own = some m.cls := by rw [hvm]; exact hown
  have hins : (Cond.instantiable cls 6).before args s' = true := h _ (by simp [Bundle.ownAtoms])
  obtain ⟨vm₁, cX, kX, hfX, hkX, -, -, X₁, st1⟩ := Y.newCold hexec (own := own) (C := cls) (index := ik) (n := 6) hown' hk' hins hini'
    (g := F0 m pc ls rest) rfl (by rw [hb]; exact d0) (Nat.le_refl _) (Nat.le_refl _)
  generalize hT1 : (T.setVm vm₁).pushCell { cls := cX, slots := kX.instanceTypes.map defaultValue, vm := .none } = T1 at X₁ st1
  have hcat : (Value.ref T.heap.size).category = 1 := rfl
  have hcellA : T1.heap[T.heap.size]? = some (freshCell cX kX) := by rw [← hT1]; exact State.heap_pushCell_size _ _
  have d3' : decode c.code (pc + 3) = .ok (.dup, 1) := by rw [hb]; exact d3
  have d4' : decode c.code (pc + 4) = .ok (.ldc is, 2) := by rw [hb]; exact d4
  have hstr' : vk_R own is text sa s' := vk_R.warm hW0 hstr
  obtain ⟨U, hsteps, hrun, hend, hW, hsame, ce, hce, hO⟩ := X₁.ctorThrowS hexec htr (own := own) (cls := cls) (names := names) (ic := ic) hown' hcls hnames h (fun x hx => nomatch hx) hfX hkX hcellA (by rw [hhp, hT]; exact Nat.le_refl _) (msg := .ref sa) rfl
    (g := { method := m, pc := pc + 6, locals := ls, stack := .ref sa :: .ref T.heap.size :: .ref T.heap.size :: rest, locked := none }) rfl hsize rfl rfl (rest := rest) rfl
    (by rw [hb]; exact d6) (by rw [hb]; exact d9) hout hRframes (by simp only [List.map_cons, List.sum_cons, hcat]; omega) hlocks
  obtain ⟨f1, f2⟩ := vx_frame hsame
  rw [hhp] at f1 f2
  have hWs : s.WarmedH U.vm := State.WarmedH.trans hW0 hW
  have hcl : s.vm.findClass cls = some ce.cls := by
    have h9 := hO.cls
    rw [hvm] at h9
    exact h9
  have hall : s.sameButNew ({ U with vm := s.vm } : State) locs mc ms := by
    subst hA
    obtain ⟨e1, e2⟩ := hsame
    rw [State.setFrames_setFrames] at e1
    have h2 : (T.setVm s.vm).sameButNew ({ U with vm := s.vm } : State) [] (0 + 1) (0 + 6) := ⟨e1, e2⟩
    have h3 := X.same.trans h2
    rw [List.append_nil] at h3
    exact h3.mono hc hs
  refine ⟨U, ?_, .threw T.heap.size, hrun, hend, Or.inr ⟨T.heap.size, rfl, cls, ce, locs, hx U hWs.alike f1 (fun q hq => f2 q hq (fun z hz => nomatch hz)), hce, hO.vm, hcl, hWs, hall, hf⟩⟩
  refine st1 _ ?_
  show Steps p.tables e below (T1.setTop { method := m, pc := pc + 3, locals := ls, stack := .ref T.heap.size :: rest, locked := none }) _
  jvm_step X₁.here [X₁.here.top, hexec, d3', Value.category]
  exact X₁.ldcString hexec (own := own) (text := text) (index := is) (a := sa) hown' hstr'.1 hstr'.2
    (g := { method := m, pc := pc + 4, locals := ls, stack := .ref T.heap.size :: .ref T.heap.size :: rest, locked := none }) rfl d4' _ hsteps
/-- 'throw new E("text")', the text by a wide index -/
theorem vx_throwSW {cc : ByteArray} {pc : Nat} (hexec : p.tables.exec = Jvm.exec) (hb : c.code = cc) (hl : l.stackTraces = false) {own cls text : String} {names : List String} {ik is ic mc ms sa : Nat} {A : Nat → Prop}
    (hown : s.vm.findClass own = some m.cls) (hcls : Bundle.fit cls = true) (hnames : ∀ n ∈ names, Bundle.fit n = true)
    (hk : (Cond.classLink own ik cls).before args s = true) (hini : (Cond.initialized cls).before args s = true) (hstr : vk_R own is text sa s) (hat : ∀ w ∈ vx_atS own ic cls names, w.before args s = true)
    (hgood : ∀ w ∈ Cond.classLink own ik cls :: Cond.initialized cls :: vx_atS own ic cls names, vx_ot w = true)
    (hU : vx_Zq Bundle.tN "UNASSIGNED_STACK" Bundle.steD A s s.heap) (hN : vx_Zq Bundle.tN "SUPPRESSED_SENTINEL" Bundle.listD A s s.heap) (hS : va_S A s.heap H locs) (hsize : ls.size = c.maxLocals)
    (d0 : decode cc pc = .ok (.new ik, 3)) (d3 : decode cc (pc + 3) = .ok (.dup, 1)) (d4 : decode cc (pc + 4) = .ok (.ldc_w is, 3)) (d7 : decode cc (pc + 7) = .ok (.invokespecial ic, 3)) (d10 : decode cc (pc + 10) = .ok (.athrow, 1))
    (hout : ∀ x ∈ c.exceptionTable.toList, covers x (pc + 10) = false)
    (hRframes : names.length + 3 < R.frames) (hRlocals : (rest.map fun v => v.category).sum + (13 * (names.length + 1) + 43) ≤ R.locals) (hRcells : cells + 1 ≤ R.cells) (hRslots : slots + 6 ≤ R.slots) (hlocks : meth.locks = false)
    (hx : ∀ t : State, s.vm.Alike t.vm → H.size ≤ t.heap.size → (∀ q : Nat, q < H.size → t.heap[q]? = H[q]?) → XC cls s t)
    (hf : ∀ z ∈ locs, free z.base) (hc : cells + 1 ≤ mc) (hs : slots + 6 ≤ ms) :
    W p l e R s m args below meth c H locs cells slots (vx_MQ below Qc XC args s mc ms free) (F0 m pc ls rest) := by
  intro T hT X
  have htr : e.platform.stackTraces = false := (show e.platform.stackTraces = l.stackTraces by rw [X.admits.platform]).trans hl
  have Y := vx_rebase X (R' := { frames := R.frames, locals := R.locals, cells := 1, slots := 6 }) (Nat.le_refl _) (Nat.le_refl _) hRcells hRslots
  obtain ⟨s', hA⟩ : ∃ z, z = (T.setVm s.vm).setFrames (.invoking m args :: below) := ⟨_, rfl⟩
  rw [← hA] at Y
  have hvm : s'.vm = s.vm := by rw [hA]; rfl
  have hhp : s'.heap = H := by rw [hA]; exact hT
  have hW0 : s.WarmedH s'.vm := by rw [hvm]; exact State.WarmedH.refl s
  have hat' : ∀ w ∈ vx_atS own ic cls names, w.before args s' = true := fun w hw => vx_ot_at hW0 hvm.symm (hgood w (List.mem_cons_of_mem _ (List.mem_cons_of_mem _ hw))) (hat w hw)
  have hk' : (Cond.classLink own ik cls).before args s' = true := vx_ot_at hW0 hvm.symm (hgood _ List.mem_cons_self) hk
  have hini' : (Cond.initialized cls).before args s' = true := vx_ot_at hW0 hvm.symm (hgood _ (List.mem_cons_of_mem _ List.mem_cons_self)) hini
  have hU' : vx_Zq Bundle.tN "UNASSIGNED_STACK" Bundle.steD A s' s'.heap := by rw [hhp]; exact vx_Zq.moved hW0.alike (hU.kept hS.2.1)
  have hN' : vx_Zq Bundle.tN "SUPPRESSED_SENTINEL" Bundle.listD A s' s'.heap := by rw [hhp]; exact vx_Zq.moved hW0.alike (hN.kept hS.2.1)
  have h : ∀ w ∈ Bundle.ownAtoms own ic cls names, w.before args s' = true := vx_own hat' (vx_isRefq hU'.1) (vx_isRefq hN'.1) hU'.2.word hN'.2.word
  have hown' : s'.vm.findClass own = some m.cls := by rw [hvm]; exact hown
  have hins : (Cond.instantiable cls 6).before args s' = true := h _ (by simp [Bundle.ownAtoms])
  obtain ⟨vm₁, cX, kX, hfX, hkX, -, -, X₁, st1⟩ := Y.newCold hexec (own := own) (C := cls) (index := ik) (n := 6) hown' hk' hins hini'
    (g := F0 m pc ls rest) rfl (by rw [hb]; exact d0) (Nat.le_refl _) (Nat.le_refl _)
  generalize hT1 : (T.setVm vm₁).pushCell { cls := cX, slots := kX.instanceTypes.map defaultValue, vm := .none } = T1 at X₁ st1
  have hcat : (Value.ref T.heap.size).category = 1 := rfl
  have hcellA : T1.heap[T.heap.size]? = some (freshCell cX kX) := by rw [← hT1]; exact State.heap_pushCell_size _ _
  have d3' : decode c.code (pc + 3) = .ok (.dup, 1) := by rw [hb]; exact d3
  have d4' : decode c.code (pc + 4) = .ok (.ldc_w is, 3) := by rw [hb]; exact d4
  have hstr' : vk_R own is text sa s' := vk_R.warm hW0 hstr
  obtain ⟨U, hsteps, hrun, hend, hW, hsame, ce, hce, hO⟩ := X₁.ctorThrowS hexec htr (own := own) (cls := cls) (names := names) (ic := ic) hown' hcls hnames h (fun x hx => nomatch hx) hfX hkX hcellA (by rw [hhp, hT]; exact Nat.le_refl _) (msg := .ref sa) rfl
    (g := { method := m, pc := pc + 7, locals := ls, stack := .ref sa :: .ref T.heap.size :: .ref T.heap.size :: rest, locked := none }) rfl hsize rfl rfl (rest := rest) rfl
    (by rw [hb]; exact d7) (by rw [hb]; exact d10) hout hRframes (by simp only [List.map_cons, List.sum_cons, hcat]; omega) hlocks
  obtain ⟨f1, f2⟩ := vx_frame hsame
  rw [hhp] at f1 f2
  have hWs : s.WarmedH U.vm := State.WarmedH.trans hW0 hW
  have hcl : s.vm.findClass cls = some ce.cls := by
    have h9 := hO.cls
    rw [hvm] at h9
    exact h9
  have hall : s.sameButNew ({ U with vm := s.vm } : State) locs mc ms := by
    subst hA
    obtain ⟨e1, e2⟩ := hsame
    rw [State.setFrames_setFrames] at e1
    have h2 : (T.setVm s.vm).sameButNew ({ U with vm := s.vm } : State) [] (0 + 1) (0 + 6) := ⟨e1, e2⟩
    have h3 := X.same.trans h2
    rw [List.append_nil] at h3
    exact h3.mono hc hs
  refine ⟨U, ?_, .threw T.heap.size, hrun, hend, Or.inr ⟨T.heap.size, rfl, cls, ce, locs, hx U hWs.alike f1 (fun q hq => f2 q hq (fun z hz => nomatch hz)), hce, hO.vm, hcl, hWs, hall, hf⟩⟩
  refine st1 _ ?_
  show Steps p.tables e below (T1.setTop { method := m, pc := pc + 3, locals := ls, stack := .ref T.heap.size :: rest, locked := none }) _
  jvm_step X₁.here [X₁.here.top, hexec, d3', Value.category]
  exact X₁.ldcStringW hexec (own := own) (text := text) (index := is) (a := sa) hown' hstr'.1 hstr'.2
    (g := { method := m, pc := pc + 4, locals := ls, stack := .ref T.heap.size :: .ref T.heap.size :: rest, locked := none }) rfl d4' _ hsteps
end Ends
section Bodies
variable {l : Launch}
theorem vx_ofW {y : MethodName} {ws ws' : List Cond} {rm : Room} {Pc : Array Value → State → Prop} {Qc : Array Value → State → Outcome → State → Prop} {XC : String → State → State → Prop} {mc ms : Nat} {free : Addr → Prop} {cc : ByteArray} {maxL : Nat} {ret : Option FieldType}
    (hy : plainName y.cls = true) (hw : ws = Cond.code y cc maxL ret :: ws')
    (body : ∀ p e s m args below meth c s₁, BodyLoose p l y (headSpec ws rm) cc maxL ret e s m args below meth c s₁ → c.maxLocals = maxL → (∀ x ∈ c.exceptionTable.toList, False) → Pc args s →
      W p l e (headSpec ws rm).room s m args below meth c s.heap [] 0 0 (vx_MQ below Qc XC args s mc ms free) (entryFrame m args maxL)) : vx_Met l y ws rm Pc Qc XC mc ms free := by
  refine MetFree.of_bodyS (code := cc) (maxLocals := maxL) (ret := ret) hy ?_ ?_
  · intro args s m h hn
    obtain ⟨meth, c, h1, h2, h3, h4, h5, h6, -, -⟩ := Cond.code_spec hn (atoms_spec (ws := ws) h _ (by rw [hw]; exact List.mem_cons_self))
    exact ⟨meth, c, h1, h2, h3, h4, h5, h6⟩
  · intro p e s m args below meth c s₁ B hml hP _
    have hh0 : s₁.heap = s.heap := by rw [B.state]; rfl
    have ht : ∀ x ∈ c.exceptionTable.toList, False := by
      obtain ⟨meth9, c9, h1, h2, -, -, -, -, h7, -⟩ := Cond.code_spec B.named (atoms_spec (ws := ws) B.pre _ (by rw [hw]; exact List.mem_cons_self))
      cases Option.some.inj (h1.symm.trans B.method)
      cases Option.some.inj (h2.symm.trans (Stand.of_body B).code)
      intro x hx
      rw [Array.isEmpty_iff.mp h7] at hx
      cases hx
    obtain ⟨t, a1, o, b1, b2, b3⟩ := body p e s m args below meth c s₁ B hml ht hP s₁ hh0 (Stand.of_body B)
    exact ⟨t, o, a1, b1, b2, b3⟩
/-- the table of a body with handlers -/
theorem vx_table {p : Program} {x y : MethodName} {S : Spec} {cc bytes : ByteArray} {maxL maxL' : Nat} {ret ret' : Option FieldType} {e : Env} {s s₁ : State} {m : MethodId} {args : Array Value} {below : List Frame} {meth : Method} {c : Code} {hh : List (Nat × Nat × Nat × Nat)}
    (B : BodyLoose p l y S cc maxL ret e s m args below meth c s₁) (h : (Cond.codeWith y bytes maxL' ret' hh).before args s = true) : c.exceptionTable.toList = tableOf hh := by
  obtain ⟨m9, meth9, c9, hn9, h1, h2, -, -, h6, -⟩ := Cond.codeWith_spec h
  cases Option.some.inj (hn9.symm.trans B.named)
  cases Option.some.inj (h1.symm.trans B.method)
  cases Option.some.inj (h2.symm.trans (Stand.of_body B).code)
  rw [← h6, table_eq]
end Bodies
end VXA
/-! ===== END ===== -/
/-! ===== BEGIN a static call of a method with an exception table ===== -/
section VXS
variable {p : Program} {l : Launch} {e : Env} {R : Room} {s : State} {m : MethodId} {args : Array Value} {below : List Frame} {meth : Method} {c : Code} {T : State} {H : Heap} {locs : List Loc} {cells slots : Nat}
abbrev vx_CSW (R : Room) (s : State) (args : Array Value) (own : String) (index : Nat) (y : MethodName) (bytes : ByteArray) (maxL : Nat) (ret : Option FieldType) (hh : List (Nat × Nat × Nat × Nat)) (ws : List Cond) (rm : Room) (mc ms n : Nat) : Prop :=
  (rm.cells = mc ∧ rm.slots = ms ∧ rm.frames + 1 ≤ R.frames ∧ 8 + (maxL + 11) + rm.locals ≤ R.locals ∧ (∀ w ∈ ws, ∀ (a' : Array Value) (U : State), s.WarmedH U.vm → w.before a' U = true) ∧ Cond.codeWith y bytes maxL ret hh ∈ ws) ∧
  (Cond.codeWith y bytes maxL ret hh).before args s = true ∧ (Cond.initialized y.cls).before args s = true ∧ (y.cls ≠ "java/lang/invoke/MethodHandle" ∧ y.cls ≠ "java/lang/invoke/VarHandle") ∧
  (∀ sig, parseMethodDescriptor y.desc = some sig → n = sig.parameters.length) ∧ (Cond.methodLink own index y).before args s = true ∧ (Cond.static y).before args s = true
theorem vx_cwSW {own : String} {index maxL mc ms : Nat} {y : MethodName} {bytes : ByteArray} {ret : Option FieldType} {hh : List (Nat × Nat × Nat × Nat)} {Ts ws ws' : List Cond} {rm : Room} (n : Nat) (ht : ∀ w ∈ Ts, w.before args s = true) (hT : GoodIn Ts (va_wsS own index y ws)) (hw : ws = Cond.codeWith y bytes maxL ret hh :: ws') (hrc : rm.cells = mc) (hrs : rm.slots = ms)
    (hd : y.cls ≠ "java/lang/invoke/MethodHandle" ∧ y.cls ≠ "java/lang/invoke/VarHandle" ∧ (parseMethodDescriptor y.desc).map (fun d => d.parameters.length) = some n) (hR : rm.frames + 1 ≤ R.frames ∧ 8 + (maxL + 11) + rm.locals ≤ R.locals) :
    vx_CSW R s args own index y bytes maxL ret hh ws rm mc ms n := by
  have ok : ∀ w ∈ va_wsS own index y ws, w.before args s = true := fun w h => ht w (hT w h).1
  have hG : GoodIn Ts ws := fun w h => hT w (by unfold va_wsS; exact List.mem_append_right _ h)
  have hc : Cond.codeWith y bytes maxL ret hh ∈ ws := by rw [hw]; exact List.mem_cons_self
  refine ⟨⟨hrc, hrs, hR.1, hR.2, pay_in ht hG, hc⟩, ht _ (hG _ hc).1, ok _ (by simp [va_wsS]), ⟨hd.1, hd.2.1⟩, fun sig h => ?_, ok _ (by simp [va_wsS]), ok _ (by simp [va_wsS])⟩
  have h2 := hd.2.2
  rw [h] at h2
  exact (Option.some.inj h2).symm
theorem vx_callSW (X : Stand p l e R s m args below meth c T locs cells slots) (hexec : p.tables.exec = Jvm.exec) {own : String} {index : Nat} {y : MethodName} {bytes : ByteArray} {maxL : Nat} {ret : Option FieldType} {hh : List (Nat × Nat × Nat × Nat)}
    (hown : s.vm.findClass own = some m.cls) (hlink : (Cond.methodLink own index y).before args s = true) (hstat : (Cond.static y).before args s = true) (hinit : (Cond.initialized y.cls).before args s = true)
    (hcode : (Cond.codeWith y bytes maxL ret hh).before args s = true) (hy : y.cls ≠ "java/lang/invoke/MethodHandle" ∧ y.cls ≠ "java/lang/invoke/VarHandle")
    {W9 : Nat} {Pre : Pt → Array Value → Prop} {Post : Pt → Array Value → Option Value → Pt → Prop} (hK : Back l R p e below s args y 3 W9 Pre Post)
    {g : JFrame} (hg : g.method = m) (hsize : g.locals.size = c.maxLocals) {argsL rest : List Value} (hlen : ∀ sig, parseMethodDescriptor y.desc = some sig → argsL.length = sig.parameters.length)
    (hstack : g.stack = argsL.reverse ++ rest) (hW : 2 * g.monitorRoom + (rest.map fun v => v.category).sum ≤ W9) (hdg : decode c.code g.pc = .ok (.invokestatic index, 3))
    (hpre : ∀ vm₁, s.WarmedH vm₁ → Pre ⟨T.setVm vm₁, locs, cells, slots⟩ argsL.toArray) :
    ∃ (v : Option Value) (vm₁ : Vm) (B : Pt), s.WarmedH vm₁ ∧ Stand p l e R s m args below meth c B.U B.locs B.cells B.slots ∧ Post ⟨T.setVm vm₁, locs, cells, slots⟩ argsL.toArray v B ∧
      ∀ target, Steps p.tables e below (B.U.setTop { g with pc := g.pc + 3, stack := v.toList ++ rest }) target → Steps p.tables e below (T.setTop g) target := by
  obtain ⟨mk, methM, cM, hnamed, hmethM, -, -, -, -, -, -, hsigM⟩ := Cond.codeWith_spec hcode
  have hstatic : methM.isStatic = true := Cond.static_spec hnamed hmethM hstat
  obtain ⟨kP, hkP, -⟩ := className_of_methodNamed hnamed
  have hinitP : kP.init = .initialized := Cond.initialized_spec (findClass_of_methodNamed hnamed) hkP hinit
  obtain ⟨vm₁, X₁, hstep₁⟩ := X.invokestatic hexec hown hlink hnamed hmethM hstatic hkP hinitP hy (g := g) hg (argsL := argsL) (rest := rest) (hlen _ hsigM) hstack hdg
  obtain ⟨v, B, X', hpost, hsteps⟩ := hK m meth c ⟨T.setVm vm₁, locs, cells, slots⟩ { g with stack := rest } (.invokestatic index) mk argsL.toArray X₁ hg hsize hdg hW (X₁.named hnamed) (hpre vm₁ X₁.warmed)
  exact ⟨v, vm₁, B, X₁.warmed, X', hpost, fun target h => hstep₁ _ fun acts => by rw [doInvoke_state]; exact hsteps.trans h⟩
theorem vx_runSW {y : MethodName} {bytes cc : ByteArray} {maxL nL mc ms n index : Nat} {ret : Option FieldType} {hh : List (Nat × Nat × Nat × Nat)} {ws : List Cond} {rm : Room} {Pc : Array Value → State → Prop} {Qc : Array Value → State → Outcome → State → Prop} {free : Addr → Prop} {Ts : List Cond} {own : String} {As rest : List Value} {g : JFrame}
    (S : CallFix p m c cc nL s args Ts own) (hM : Met l y ws rm Pc Qc mc ms free) (cw : vx_CSW R s args own index y bytes maxL ret hh ws rm mc ms n) (hp : PreS s H Pc As)
    (hg : g.method = m) (hn : As.length = n) (hsize : g.locals.size = nL) (hstack : g.stack = As.reverse ++ rest) (hW : 2 * g.monitorRoom + (rest.map fun v => v.category).sum ≤ 8) (hdg : decode cc g.pc = .ok (.invokestatic index, 3)) (hf : cells + mc ≤ R.cells ∧ slots + ms ≤ R.slots) :
    va_Run p l e R s m args below meth c H locs cells slots mc ms g rest (Qc As.toArray) (free) := by
  obtain ⟨⟨hrc, hrs, hfr, hlo, hws, hcw⟩, hcode, hini, hy, hlen, hl, hstt⟩ := cw
  have hK : Back l R p e below s args y 3 8 (PreOf R mc ms Pc) (PostOf Qc mc ms free) := va_backW (hh := hh) (bytes := bytes) (maxL := maxL) (ret := ret) hM hp.1 hrc hrs hfr hlo hws hcw (fun a' U hW => word_at hW (Or.inl (by first | rfl | simp [Cond.onTables, Cond.keeps, Cond.steady])) hini)
  obtain ⟨hx, hb, hml, ho, -⟩ := S
  intro T hT X
  obtain ⟨v, vm₁, ⟨U', l2, c2, s2⟩, hW₁, X', ⟨g', mk, t, L, e1, e2, hq, h1, hL, h2, h3⟩, st⟩ := vx_callSW X hx (hh := hh) (bytes := bytes) (maxL := maxL) (ret := ret) ho hl hstt hini hcode hy hK hg (hsize.trans hml.symm) (argsL := As) (rest := rest) (fun sig h => hn.trans (hlen sig h)) hstack hW (by rw [hb]; exact hdg)
    (fun vm₁ hW₁ => ⟨hf.1, hf.2, hp.2 (T.setVm vm₁) hT hW₁⟩)
  dsimp only [Pt.U, Pt.locs, Pt.cells, Pt.slots] at X' e1 e2 h1 h2 h3 st
  subst h1; subst h2; subst h3
  exact ⟨v, (T.setVm vm₁).calling g' mk As.toArray, t, U', L, hT, X', hL, e1, e2, hq, st⟩
/-- not caught here, past rows that name other classes: it goes on to the caller -/
theorem vx_outP {p : Program} {l : Launch} {e : Env} {R : Room} {s : State} {m : MethodId} {args : Array Value} {below : List Frame} {meth : Method} {c : Code} {H : Heap} {locs : List Loc} {cells slots : Nat} {free : Addr → Prop} {ls : Array Slot} {rest : List Value} {Qc : Array Value → State → Outcome → State → Prop} {XC : String → State → State → Prop}
    {pc : Nat} {own E : String} {ce : Cell} {q : Addr} {mc ms : Nat} (hown : s.vm.findClass own = some m.cls) (hlocks : meth.locks = false)
    (hpass : ∀ z ∈ c.exceptionTable.toList, covers z pc = false ∨ (z.catchType ≠ 0 ∧ ∃ nm : String, (Cond.classLink own z.catchType nm).before args s = true ∧ va_Nc E nm s)) (hcell : H[q]? = some ce) (hv : ce.vm = .none) (hcl : s.vm.findClass E = some ce.cls)
    (hx : ∀ t : State, t.heap = H → s.vm.Alike t.vm → XC E s t) (hf : ∀ z ∈ locs, free z.base) (hc : cells ≤ mc) (hs : slots ≤ ms) :
    vx_W p l e R s m args below meth c H locs cells slots (vx_MQ below Qc XC args s mc ms free) (F0 m pc ls rest) q := by
  intro T hT X
  have hpl : e.platform.magicAccessors = ({} : Platform).magicAccessors := by rw [X.admits.platform]
  obtain ⟨vm', hW', X', st⟩ := X.outThrough hlocks q (g := F0 m pc ls rest) rfl rfl rfl (cell := ce) (by rw [hT]; exact hcell) (by rw [hv]; rfl)
    (by obtain ⟨k9, h9, -⟩ := Vm.findClass_spec hcl; exact ⟨k9, h9⟩) (fun z hz => by
      rcases hpass z hz with h | ⟨hz0, nm, hl1, hn1⟩
      · exact Or.inl h
      · obtain ⟨c6, hc6, hcl6⟩ := Cond.classLink_spec hown hl1 e.platform hpl
        obtain ⟨a8, b8, h1, h2, h3⟩ := hn1
        cases Option.some.inj (h1.symm.trans hcl)
        cases Option.some.inj (h2.symm.trans hc6)
        exact Or.inr ⟨hz0, _, hcl6, h3⟩)
  obtain ⟨g₀, hfr⟩ := X'.frames_eq
  have hcell9 : ((T.setVm vm').setFrames (.throwing q :: below)).heap[q]? = some ce := by
    show T.heap[q]? = some ce
    rw [hT]; exact hcell
  have hend : Ended ((T.setVm vm').setFrames (.throwing q :: below)) below (.threw q) := State.frames_setFrames _ (State.cur_lt_of_frames hfr)
  refine ⟨(T.setVm vm').setFrames (.throwing q :: below), ?_, .threw q, X'.here.running, hend, Or.inr ⟨q, rfl, E, ce, locs, hx _ hT (X'.ends _).1.alike, hcell9, hv, hcl, (X'.ends _).1, (X'.ends _).2.mono hc hs, hf⟩⟩
  rw [X.pushThrowing_eq]
  exact st
/-- a thing of a world lies in the heap -/
theorem vx_lt {D : va_G} {cl : List vw_C} {ws : va_W} {H1 : Heap} (h : va_P D cl ws H1) {k : Nat} {q : Nat × va_E} (hk : ws[k]? = some q) : q.1 < H1.size := (h k q hk).lt
end VXS
/-! ===== END ===== -/
/-! ===== BEGIN methods with a table of their own: called by a name, returning or throwing ===== -/
section VXH
/-! vx_backW, vx_callVX, vx_callSX, vx_callVW, vx_runVW, vx_runVX, vx_runSX, vx_ofWH follow the same proofs as their sisters above (Free/Laws.lean, Shelf42/LK1.lean); vx_outP calls Shelf42/NT130.lean (outThrough). -/
section
variable {l : Launch} {R : Room} {p : Program} {e : Env} {below : List Frame} {s : State} {sargs : Array Value} {y : MethodName} {len W9 : Nat}
theorem vx_backW {ws : List Cond} {rm : Room} {Pc : Array Value → State → Prop} {Qc : Array Value → State → Outcome → State → Prop} {XC : String → State → State → Prop} {mc ms : Nat} {free : Addr → Prop} {bytes : ByteArray} {maxL : Nat} {ret : Option FieldType} {hh : List (Nat × Nat × Nat × Nat)}
    (hM : vx_Met l y ws rm Pc Qc XC mc ms free) (hblind : FrameBlind Pc) (hrc : rm.cells = mc) (hrs : rm.slots = ms)
    (hframes : rm.frames + 1 ≤ R.frames) (hlocals : W9 + (maxL + 11) + rm.locals ≤ R.locals)
    (hws : ∀ w ∈ ws, ∀ a' U, s.WarmedH U.vm → w.before a' U = true) (hcode : Cond.codeWith y bytes maxL ret hh ∈ ws) (hinit : ∀ a' U, s.WarmedH U.vm → (Cond.initialized y.cls).before a' U = true) :
    vx_Back l R p e below s sargs y len W9 (PreOf R mc ms Pc) (PostOf Qc mc ms free) (vx_Post XC mc ms free) := by
  intro m meth c A g ig mk a X hg hsize hdg hW hn hp
  have h1 : (headSpec ws rm).pre.before a A.U = true := atoms_intro fun w hw => hws w hw _ _ X.warmed
  have h2 : (Cond.codeWith y bytes maxL ret hh).before a A.U = true := hws _ hcode _ _ X.warmed
  have h3 : (Cond.initialized y.cls).before a A.U = true := hinit _ _ X.warmed
  have h4 : A.cells + (headSpec ws rm).room.cells ≤ R.cells := by rw [show (headSpec ws rm).room.cells = mc from hrc]; exact hp.1
  have h5 : A.slots + (headSpec ws rm).room.slots ≤ R.slots := by rw [show (headSpec ws rm).room.slots = ms from hrs]; exact hp.2.1
  have hPc : Pc a (A.U.calling g mk a) := hblind _ _ _ _ hp.2.2
  obtain ⟨U, Ls, c0, s0⟩ := A
  dsimp only [Pt.U, Pt.locs, Pt.cells, Pt.slots] at h1 h2 h3 h4 h5 X hn hPc ⊢
  obtain ⟨m9, methY, cY, hn9, hmY, hcY, -, hlY, -⟩ := Cond.codeWith_spec h2
  cases Option.some.inj (hn9.symm.trans hn)
  obtain ⟨kY, hkY, -⟩ := className_of_methodNamed hn
  have hinitY : kY.init = .initialized := Cond.initialized_spec (findClass_of_methodNamed hn) hkY h3
  have h : At U g.method c below := by rw [hg]; exact X.here
  have hlocals9 : W9 + (maxL + 11) + (headSpec ws rm).room.locals ≤ R.locals := hlocals
  have happ : (headSpec ws rm).appliesLoose y e.platform (U.calling g mk a) = true :=
    Spec.appliesLoose_calling (g := g) h hdg hn hkY hinitY
      (X.room_calling (g := g) (R' := (headSpec ws rm).room) hsize hmY hcY hframes (by rw [hlY]; omega) h4 h5) h1
  obtain ⟨mid, hmid⟩ := h.above
  have hfr : (U.setTop g).frames = (.java g :: mid) ++ below := by rw [State.frames_setTop' g h.top, hmid]; rfl
  obtain ⟨o, s₂, hsteps, -, hend, hq⟩ := Steps.callFree hM p X.admits X.cas X.clock (acts := []) hfr happ hPc trivial
  have hq' : vx_Q Qc XC mc ms free a (U.calling g mk a) o s₂ := hq
  rw [State.frames_setTop' g h.top] at hend
  obtain ⟨g₀, hg0⟩ := Option.isSome_iff_exists.mp h.top
  obtain ⟨r, hr⟩ := State.topJava?_eq_some.mp hg0
  have hr' : (({ U with heap := s₂.heap, slotsUsed := s₂.slotsUsed } : State).setVm s₂.vm).frames = .java g₀ :: r := hr
  rcases hq' with ⟨hqc, L, hfe, hL⟩ | ⟨q, rfl, E, ce, L, hx, hce, hcv, hcl, hW₂, hsm, hL⟩
  · obtain ⟨⟨v, rfl⟩, hW₂, e2, q2, q3, q4, q5, q6⟩ := id hfe
    have e3 : s₂ = ({ (U.calling g mk a).setFrames s₂.frames with heap := s₂.heap, slotsUsed := s₂.slotsUsed } : State).setVm s₂.vm := by
      have : s₂ = ({ s₂ with vm := (U.calling g mk a).vm } : State).setVm s₂.vm := rfl
      rw [e2] at this
      exact this
    obtain ⟨c₂, i₂, len₂, hc₂, hd₂, hf₂⟩ := hend
    have hW' : U.WarmedH s₂.vm := hW₂
    have hcc : c₂ = c := by
      have h1 : s₂.code? g.method = U.code? g.method := by
        rw [State.code?_eq, State.code?_eq, hW'.alike.method?]
      exact Option.some.inj (hc₂.symm.trans (h1.trans h.code))
    subst hcc
    have hlen : len₂ = len := by rw [hdg] at hd₂; cases hd₂; rfl
    subst hlen
    have hs₂ : s₂ = (({ U with heap := s₂.heap, slotsUsed := s₂.slotsUsed } : State).setVm s₂.vm).setTop { g with pc := g.pc + len₂, stack := v.toList ++ g.stack } := by
      refine e3.trans ?_
      rw [hf₂, State.calling_eq h.top, State.setFrames_setFrames, State.setTop_of_frames _ hr', hr]
      rfl
    have hsame : U.sameButNew ({ U with heap := s₂.heap, slotsUsed := s₂.slotsUsed } : State) L mc ms := by
      refine ⟨?_, q2, q3, q4, q5, q6⟩
      obtain ⟨t, ht, -⟩ := State.frames_cons hr
      show ({ U with heap := s₂.heap, slotsUsed := s₂.slotsUsed } : State) = { U.setFrames U.frames with heap := s₂.heap, slotsUsed := s₂.slotsUsed }
      rw [State.setFrames_self ht]
    subst hg
    refine Or.inl ⟨v, ⟨(({ U with heap := s₂.heap, slotsUsed := s₂.slotsUsed } : State).setVm s₂.vm), Ls ++ L, c0 + mc, s0 + ms⟩,
      ⟨X.admits, X.cas, X.clock, X.frames, X.room, X.hears, X.method, X.code, (X.here.setHeapUsed s₂.heap s₂.slotsUsed).setVm hW'.alike, X.tail, State.WarmedH.trans X.warmed hW', X.limits, X.bytes, X.same.trans (hsame.setVm s.vm)⟩,
      ⟨g, mk, s₂, L, rfl, rfl, hqc, rfl, hL, rfl, rfl⟩, ?_⟩
    show Steps p.tables e below _ ((({ U with heap := s₂.heap, slotsUsed := s₂.slotsUsed } : State).setVm s₂.vm).setTop { g with pc := g.pc + len₂, stack := v.toList ++ g.stack })
    rw [← hs₂]
    exact hsteps
  · obtain ⟨e2, q2, q3, q4, q5, q6⟩ := id hsm
    have e3 : s₂ = ({ (U.calling g mk a).setFrames s₂.frames with heap := s₂.heap, slotsUsed := s₂.slotsUsed } : State).setVm s₂.vm := by
      have : s₂ = ({ s₂ with vm := (U.calling g mk a).vm } : State).setVm s₂.vm := rfl
      rw [e2] at this
      exact this
    have hf₂ : s₂.frames = .throwing q :: .java g :: U.frames.tail := hend
    have hW' : U.WarmedH s₂.vm := hW₂
    have hs₂ : s₂ = ((({ U with heap := s₂.heap, slotsUsed := s₂.slotsUsed } : State).setVm s₂.vm).setTop g).pushFrame (.throwing q) := by
      refine e3.trans ?_
      rw [hf₂, State.calling_eq h.top, State.setFrames_setFrames, State.pushFrame, State.frames_setTop _ hr', State.setTop_of_frames _ hr', State.setFrames_setFrames, hr]
      rfl
    have hsame : U.sameButNew ({ U with heap := s₂.heap, slotsUsed := s₂.slotsUsed } : State) L mc ms := by
      refine ⟨?_, q2, q3, q4, q5, q6⟩
      obtain ⟨t, ht, -⟩ := State.frames_cons hr
      show ({ U with heap := s₂.heap, slotsUsed := s₂.slotsUsed } : State) = { U.setFrames U.frames with heap := s₂.heap, slotsUsed := s₂.slotsUsed }
      rw [State.setFrames_self ht]
    subst hg
    refine Or.inr ⟨q, ⟨(({ U with heap := s₂.heap, slotsUsed := s₂.slotsUsed } : State).setVm s₂.vm), Ls ++ L, c0 + mc, s0 + ms⟩,
      ⟨X.admits, X.cas, X.clock, X.frames, X.room, X.hears, X.method, X.code, (X.here.setHeapUsed s₂.heap s₂.slotsUsed).setVm hW'.alike, X.tail, State.WarmedH.trans X.warmed hW', X.limits, X.bytes, X.same.trans (hsame.setVm s.vm)⟩,
      ⟨g, mk, s₂, L, E, ce, rfl, rfl, hx, hce, hcv, hcl, rfl, hL, rfl, rfl⟩, ?_⟩
    show Steps p.tables e below _ (((({ U with heap := s₂.heap, slotsUsed := s₂.slotsUsed } : State).setVm s₂.vm).setTop g).pushFrame (.throwing q))
    rw [← hs₂]
    exact hsteps
end
variable {p : Program} {l : Launch} {e : Env} {R : Room} {s : State} {m : MethodId} {args : Array Value} {below : List Frame} {meth : Method} {c : Code} {T : State} {H : Heap} {locs : List Loc} {cells slots : Nat}
theorem vx_callVX (X : Stand p l e R s m args below meth c T locs cells slots) (hexec : p.tables.exec = Jvm.exec) {own C : String} {index : Nat} {y : MethodName} {bytes : ByteArray} {maxL : Nat} {ret : Option FieldType} {hh : List (Nat × Nat × Nat × Nat)}
    (hown : s.vm.findClass own = some m.cls) (hlink : (Cond.methodLink own index y).before args s = true) (hinst : (Cond.instanceMethod y).before args s = true) (hsel : (Cond.selects C y y).before args s = true)
    (hcode : (Cond.codeWith y bytes maxL ret hh).before args s = true) (hy : y.cls ≠ "java/lang/invoke/MethodHandle" ∧ y.cls ≠ "java/lang/invoke/VarHandle")
    {W9 : Nat} {Pre : Pt → Array Value → Prop} {Post : Pt → Array Value → Option Value → Pt → Prop} {PostX : Pt → Array Value → Addr → Pt → Prop} (hK : vx_Back l R p e below s args y 3 W9 Pre Post PostX)
    {b : Addr} {cellB : Cell} (hcell : T.heap[b]? = some cellB) (hobj : cellB.vm.isStatics = false) (hcls : s.vm.findClass C = some cellB.cls)
    {g : JFrame} (hg : g.method = m) (hsize : g.locals.size = c.maxLocals) {argsL rest : List Value} (hlen : ∀ sig, parseMethodDescriptor y.desc = some sig → argsL.length = sig.parameters.length)
    (hstack : g.stack = argsL.reverse ++ .ref b :: rest) (hW : 2 * g.monitorRoom + (rest.map fun v => v.category).sum ≤ W9) (hdg : decode c.code g.pc = .ok (.invokevirtual index, 3))
    (hpre : ∀ vm₁, s.WarmedH vm₁ → Pre ⟨T.setVm vm₁, locs, cells, slots⟩ (Value.ref b :: argsL).toArray) :
    (∃ (v : Option Value) (vm₁ : Vm) (B : Pt), s.WarmedH vm₁ ∧ Stand p l e R s m args below meth c B.U B.locs B.cells B.slots ∧ Post ⟨T.setVm vm₁, locs, cells, slots⟩ (Value.ref b :: argsL).toArray v B ∧
      ∀ target, Steps p.tables e below (B.U.setTop { g with pc := g.pc + 3, stack := v.toList ++ rest }) target → Steps p.tables e below (T.setTop g) target) ∨
    (∃ (q : Addr) (vm₁ : Vm) (B : Pt), s.WarmedH vm₁ ∧ Stand p l e R s m args below meth c B.U B.locs B.cells B.slots ∧ PostX ⟨T.setVm vm₁, locs, cells, slots⟩ (Value.ref b :: argsL).toArray q B ∧
      Steps p.tables e below (T.setTop g) ((B.U.setTop { g with stack := rest }).pushFrame (.throwing q))) := by
  obtain ⟨mk, methM, hnamed, hmethM, hstM, habM⟩ := Cond.instanceMethod_spec hinst
  obtain ⟨m8, methM', cM, hn8, hmethM', -, -, -, -, -, -, hsigM⟩ := Cond.codeWith_spec hcode
  cases Option.some.inj (hn8.symm.trans hnamed)
  cases hmethM.symm.trans hmethM'
  obtain ⟨c2, r2, m2, q1, q2, q3, q4, kP, hkP, hkPi⟩ := Cond.selects_spec hsel
  cases hcls.symm.trans q1
  cases (State.methodFound?_of_named hnamed hy).symm.trans q2
  cases hnamed.symm.trans q3
  have hselP : selectMethod e.platform s.vm cellB.cls mk = .method mk := by rw [Launch.admits_selectMethod X.admits]; exact q4
  obtain ⟨vm₁, X₁, hstep₁⟩ := X.invokevirtual hexec hown hlink hnamed hmethM hstM hkP hkPi hy (a := b) (cell := cellB) hcell
    (fun z h => by rw [h] at hobj; cases hobj) hselP hmethM habM hkP hkPi (g := g) hg (argsL := argsL) (rest := rest) (hlen _ hsigM) hstack hdg
  rcases hK m meth c ⟨T.setVm vm₁, locs, cells, slots⟩ { g with stack := rest } (.invokevirtual index) mk (Value.ref b :: argsL).toArray X₁ hg hsize hdg hW (X₁.named hnamed) (hpre vm₁ X₁.warmed) with ⟨v, B, X', hpost, hsteps⟩ | ⟨q, B, X', hpost, hsteps⟩
  · exact Or.inl ⟨v, vm₁, B, X₁.warmed, X', hpost, fun target h => hstep₁ _ fun acts => by rw [doInvoke_state]; exact hsteps.trans h⟩
  · exact Or.inr ⟨q, vm₁, B, X₁.warmed, X', hpost, hstep₁ _ fun acts => by rw [doInvoke_state]; exact hsteps⟩
theorem vx_callSX (X : Stand p l e R s m args below meth c T locs cells slots) (hexec : p.tables.exec = Jvm.exec) {own : String} {index : Nat} {y : MethodName} {bytes : ByteArray} {maxL : Nat} {ret : Option FieldType} {hh : List (Nat × Nat × Nat × Nat)}
    (hown : s.vm.findClass own = some m.cls) (hlink : (Cond.methodLink own index y).before args s = true) (hstat : (Cond.static y).before args s = true) (hinit : (Cond.initialized y.cls).before args s = true)
    (hcode : (Cond.codeWith y bytes maxL ret hh).before args s = true) (hy : y.cls ≠ "java/lang/invoke/MethodHandle" ∧ y.cls ≠ "java/lang/invoke/VarHandle")
    {W9 : Nat} {Pre : Pt → Array Value → Prop} {Post : Pt → Array Value → Option Value → Pt → Prop} {PostX : Pt → Array Value → Addr → Pt → Prop} (hK : vx_Back l R p e below s args y 3 W9 Pre Post PostX)
    {g : JFrame} (hg : g.method = m) (hsize : g.locals.size = c.maxLocals) {argsL rest : List Value} (hlen : ∀ sig, parseMethodDescriptor y.desc = some sig → argsL.length = sig.parameters.length)
    (hstack : g.stack = argsL.reverse ++ rest) (hW : 2 * g.monitorRoom + (rest.map fun v => v.category).sum ≤ W9) (hdg : decode c.code g.pc = .ok (.invokestatic index, 3))
    (hpre : ∀ vm₁, s.WarmedH vm₁ → Pre ⟨T.setVm vm₁, locs, cells, slots⟩ argsL.toArray) :
    (∃ (v : Option Value) (vm₁ : Vm) (B : Pt), s.WarmedH vm₁ ∧ Stand p l e R s m args below meth c B.U B.locs B.cells B.slots ∧ Post ⟨T.setVm vm₁, locs, cells, slots⟩ argsL.toArray v B ∧
      ∀ target, Steps p.tables e below (B.U.setTop { g with pc := g.pc + 3, stack := v.toList ++ rest }) target → Steps p.tables e below (T.setTop g) target) ∨
    (∃ (q : Addr) (vm₁ : Vm) (B : Pt), s.WarmedH vm₁ ∧ Stand p l e R s m args below meth c B.U B.locs B.cells B.slots ∧ PostX ⟨T.setVm vm₁, locs, cells, slots⟩ argsL.toArray q B ∧
      Steps p.tables e below (T.setTop g) ((B.U.setTop { g with stack := rest }).pushFrame (.throwing q))) := by
  obtain ⟨mk, methM, cM, hnamed, hmethM, -, -, -, -, -, -, hsigM⟩ := Cond.codeWith_spec hcode
  have hstatic : methM.isStatic = true := Cond.static_spec hnamed hmethM hstat
  obtain ⟨kP, hkP, -⟩ := className_of_methodNamed hnamed
  have hinitP : kP.init = .initialized := Cond.initialized_spec (findClass_of_methodNamed hnamed) hkP hinit
  obtain ⟨vm₁, X₁, hstep₁⟩ := X.invokestatic hexec hown hlink hnamed hmethM hstatic hkP hinitP hy (g := g) hg (argsL := argsL) (rest := rest) (hlen _ hsigM) hstack hdg
  rcases hK m meth c ⟨T.setVm vm₁, locs, cells, slots⟩ { g with stack := rest } (.invokestatic index) mk argsL.toArray X₁ hg hsize hdg hW (X₁.named hnamed) (hpre vm₁ X₁.warmed) with ⟨v, B, X', hpost, hsteps⟩ | ⟨q, B, X', hpost, hsteps⟩
  · exact Or.inl ⟨v, vm₁, B, X₁.warmed, X', hpost, fun target h => hstep₁ _ fun acts => by rw [doInvoke_state]; exact hsteps.trans h⟩
  · exact Or.inr ⟨q, vm₁, B, X₁.warmed, X', hpost, hstep₁ _ fun acts => by rw [doInvoke_state]; exact hsteps⟩
theorem vx_callVW (X : Stand p l e R s m args below meth c T locs cells slots) (hexec : p.tables.exec = Jvm.exec) {own C : String} {index : Nat} {y : MethodName} {bytes : ByteArray} {maxL : Nat} {ret : Option FieldType} {hh : List (Nat × Nat × Nat × Nat)}
    (hown : s.vm.findClass own = some m.cls) (hlink : (Cond.methodLink own index y).before args s = true) (hinst : (Cond.instanceMethod y).before args s = true) (hsel : (Cond.selects C y y).before args s = true)
    (hcode : (Cond.codeWith y bytes maxL ret hh).before args s = true) (hy : y.cls ≠ "java/lang/invoke/MethodHandle" ∧ y.cls ≠ "java/lang/invoke/VarHandle")
    {W9 : Nat} {Pre : Pt → Array Value → Prop} {Post : Pt → Array Value → Option Value → Pt → Prop} (hK : Back l R p e below s args y 3 W9 Pre Post)
    {b : Addr} {cellB : Cell} (hcell : T.heap[b]? = some cellB) (hobj : cellB.vm.isStatics = false) (hcls : s.vm.findClass C = some cellB.cls)
    {g : JFrame} (hg : g.method = m) (hsize : g.locals.size = c.maxLocals) {argsL rest : List Value} (hlen : ∀ sig, parseMethodDescriptor y.desc = some sig → argsL.length = sig.parameters.length)
    (hstack : g.stack = argsL.reverse ++ .ref b :: rest) (hW : 2 * g.monitorRoom + (rest.map fun v => v.category).sum ≤ W9) (hdg : decode c.code g.pc = .ok (.invokevirtual index, 3))
    (hpre : ∀ vm₁, s.WarmedH vm₁ → Pre ⟨T.setVm vm₁, locs, cells, slots⟩ (Value.ref b :: argsL).toArray) :
    ∃ (v : Option Value) (vm₁ : Vm) (B : Pt), s.WarmedH vm₁ ∧ Stand p l e R s m args below meth c B.U B.locs B.cells B.slots ∧ Post ⟨T.setVm vm₁, locs, cells, slots⟩ (Value.ref b :: argsL).toArray v B ∧
      ∀ target, Steps p.tables e below (B.U.setTop { g with pc := g.pc + 3, stack := v.toList ++ rest }) target → Steps p.tables e below (T.setTop g) target := by
  obtain ⟨mk, methM, hnamed, hmethM, hstM, habM⟩ := Cond.instanceMethod_spec hinst
  obtain ⟨m8, methM', cM, hn8, hmethM', -, -, -, -, -, -, hsigM⟩ := Cond.codeWith_spec hcode
  cases Option.some.inj (hn8.symm.trans hnamed)
  cases hmethM.symm.trans hmethM'
  obtain ⟨c2, r2, m2, q1, q2, q3, q4, kP, hkP, hkPi⟩ := Cond.selects_spec hsel
  cases hcls.symm.trans q1
  cases (State.methodFound?_of_named hnamed hy).symm.trans q2
  cases hnamed.symm.trans q3
  have hselP : selectMethod e.platform s.vm cellB.cls mk = .method mk := by rw [Launch.admits_selectMethod X.admits]; exact q4
  obtain ⟨vm₁, X₁, hstep₁⟩ := X.invokevirtual hexec hown hlink hnamed hmethM hstM hkP hkPi hy (a := b) (cell := cellB) hcell
    (fun z h => by rw [h] at hobj; cases hobj) hselP hmethM habM hkP hkPi (g := g) hg (argsL := argsL) (rest := rest) (hlen _ hsigM) hstack hdg
  obtain ⟨v, B, X', hpost, hsteps⟩ := hK m meth c ⟨T.setVm vm₁, locs, cells, slots⟩ { g with stack := rest } (.invokevirtual index) mk (Value.ref b :: argsL).toArray X₁ hg hsize hdg hW (X₁.named hnamed) (hpre vm₁ X₁.warmed)
  exact ⟨v, vm₁, B, X₁.warmed, X', hpost, fun target h => hstep₁ _ fun acts => by rw [doInvoke_state]; exact hsteps.trans h⟩
abbrev vx_CVW (R : Room) (s : State) (args : Array Value) (own C : String) (index : Nat) (y : MethodName) (bytes : ByteArray) (maxL : Nat) (ret : Option FieldType) (hh : List (Nat × Nat × Nat × Nat)) (ws : List Cond) (rm : Room) (mc ms n : Nat) : Prop :=
  (rm.cells = mc ∧ rm.slots = ms ∧ rm.frames + 1 ≤ R.frames ∧ 8 + (maxL + 11) + rm.locals ≤ R.locals ∧ (∀ w ∈ ws, ∀ (a' : Array Value) (U : State), s.WarmedH U.vm → w.before a' U = true) ∧ Cond.codeWith y bytes maxL ret hh ∈ ws) ∧
  (Cond.codeWith y bytes maxL ret hh).before args s = true ∧ (Cond.initialized y.cls).before args s = true ∧ (y.cls ≠ "java/lang/invoke/MethodHandle" ∧ y.cls ≠ "java/lang/invoke/VarHandle") ∧
  (∀ sig, parseMethodDescriptor y.desc = some sig → n = sig.parameters.length) ∧ (Cond.methodLink own index y).before args s = true ∧ (Cond.instanceMethod y).before args s = true ∧ (Cond.selects C y y).before args s = true
theorem vx_cwVW {own C : String} {index maxL mc ms : Nat} {y : MethodName} {bytes : ByteArray} {ret : Option FieldType} {hh : List (Nat × Nat × Nat × Nat)} {Ts ws ws' : List Cond} {rm : Room} (n : Nat) (ht : ∀ w ∈ Ts, w.before args s = true) (hT : GoodIn Ts (wsV own index C y ws)) (hw : ws = Cond.codeWith y bytes maxL ret hh :: ws') (hrc : rm.cells = mc) (hrs : rm.slots = ms)
    (hd : y.cls = C ∧ y.cls ≠ "java/lang/invoke/MethodHandle" ∧ y.cls ≠ "java/lang/invoke/VarHandle" ∧ (parseMethodDescriptor y.desc).map (fun d => d.parameters.length) = some n) (hR : rm.frames + 1 ≤ R.frames ∧ 8 + (maxL + 11) + rm.locals ≤ R.locals) :
    vx_CVW R s args own C index y bytes maxL ret hh ws rm mc ms n := by
  obtain ⟨hC, hd⟩ := hd
  subst hC
  have ok : ∀ w ∈ wsV own index y.cls y ws, w.before args s = true := fun w h => ht w (hT w h).1
  have hG : GoodIn Ts ws := fun w h => hT w (by unfold wsV; exact List.mem_append_right _ h)
  have hc : Cond.codeWith y bytes maxL ret hh ∈ ws := by rw [hw]; exact List.mem_cons_self
  refine ⟨⟨hrc, hrs, hR.1, hR.2, pay_in ht hG, hc⟩, ht _ (hG _ hc).1, ok _ (by simp [wsV]), ⟨hd.1, hd.2.1⟩, fun sig h => ?_, ok _ (by simp [wsV]), ok _ (by simp [wsV]), ok _ (by simp [wsV])⟩
  have h2 := hd.2.2
  rw [h] at h2
  exact (Option.some.inj h2).symm
theorem vx_runVW {y : MethodName} {bytes cc : ByteArray} {maxL nL mc ms n index : Nat} {ret : Option FieldType} {hh : List (Nat × Nat × Nat × Nat)} {ws : List Cond} {rm : Room} {Pc : Array Value → State → Prop} {Qc : Array Value → State → Outcome → State → Prop} {free : Addr → Prop} {Ts : List Cond} {own C : String} {b : Addr} {As rest : List Value} {g : JFrame}
    (S : CallFix p m c cc nL s args Ts own) (hM : Met l y ws rm Pc Qc mc ms free) (cw : vx_CVW R s args own C index y bytes maxL ret hh ws rm mc ms n) (hp : PreV s H C b Pc As)
    (hg : g.method = m) (hn : As.length = n) (hsize : g.locals.size = nL) (hstack : g.stack = As.reverse ++ .ref b :: rest) (hW : 2 * g.monitorRoom + (rest.map fun v => v.category).sum ≤ 8) (hdg : decode cc g.pc = .ok (.invokevirtual index, 3)) (hf : cells + mc ≤ R.cells ∧ slots + ms ≤ R.slots) :
    va_Run p l e R s m args below meth c H locs cells slots mc ms g rest (Qc (Value.ref b :: As).toArray) free := by
  obtain ⟨⟨hrc, hrs, hfr, hlo, hws, hcw⟩, hcode, hini, hy, hlen, hl, hin, hse⟩ := cw
  have hK : Back l R p e below s args y 3 8 (PreOf R mc ms Pc) (PostOf Qc mc ms free) := va_backW (hh := hh) (bytes := bytes) (maxL := maxL) (ret := ret) hM hp.1 hrc hrs hfr hlo hws hcw (fun a' U hW => word_at hW (Or.inl (by first | rfl | simp [Cond.onTables, Cond.keeps, Cond.steady])) hini)
  obtain ⟨hx, hb, hml, ho, -⟩ := S
  obtain ⟨-, ⟨cellB, hcB, hoB, hclB⟩, hPc⟩ := hp
  intro T hT X
  obtain ⟨v, vm₁, ⟨U', l2, c2, s2⟩, hW₁, X', ⟨g', mk, t, L, e1, e2, hq, h1, hL, h2, h3⟩, st⟩ := vx_callVW X hx (C := C) (hh := hh) (bytes := bytes) (maxL := maxL) (ret := ret) ho hl hin hse hcode hy hK (by rw [hT]; exact hcB) hoB hclB hg (hsize.trans hml.symm) (argsL := As) (rest := rest) (fun sig h => hn.trans (hlen sig h)) hstack hW (by rw [hb]; exact hdg)
    (fun vm₁ hW₁ => ⟨hf.1, hf.2, hPc (T.setVm vm₁) hT hW₁⟩)
  dsimp only [Pt.U, Pt.locs, Pt.cells, Pt.slots] at X' e1 e2 h1 h2 h3 st
  subst h1; subst h2; subst h3
  exact ⟨v, (T.setVm vm₁).calling g' mk (Value.ref b :: As).toArray, t, U', L, hT, X', hL, e1, e2, hq, st⟩
section
variable {y : MethodName} {bytes cc : ByteArray} {maxL nL mc ms n index : Nat} {ret : Option FieldType} {ws : List Cond} {rm : Room} {Pc : Array Value → State → Prop} {Qc : Array Value → State → Outcome → State → Prop} {XC : String → State → State → Prop} {free : Addr → Prop} {Ts : List Cond} {own C : String} {b : Addr} {As rest : List Value} {g : JFrame}
theorem vx_runVX {hh : List (Nat × Nat × Nat × Nat)} (S : CallFix p m c cc nL s args Ts own) (hM : vx_Met l y ws rm Pc Qc XC mc ms free) (cw : vx_CVW R s args own C index y bytes maxL ret hh ws rm mc ms n) (hp : PreV s H C b Pc As)
    (hg : g.method = m) (hn : As.length = n) (hsize : g.locals.size = nL) (hstack : g.stack = As.reverse ++ .ref b :: rest) (hW : 2 * g.monitorRoom + (rest.map fun v => v.category).sum ≤ 8) (hdg : decode cc g.pc = .ok (.invokevirtual index, 3)) (hf : cells + mc ≤ R.cells ∧ slots + ms ≤ R.slots) :
    vx_Run p l e R s m args below meth c H locs cells slots mc ms g rest (Qc (Value.ref b :: As).toArray) XC free := by
  obtain ⟨⟨hrc, hrs, hfr, hlo, hws, hcw⟩, hcode, hini, hy, hlen, hl, hin, hse⟩ := cw
  have hK : vx_Back l R p e below s args y 3 8 (PreOf R mc ms Pc) (PostOf Qc mc ms free) (vx_Post XC mc ms free) := vx_backW (hh := hh) (bytes := bytes) (maxL := maxL) (ret := ret) hM hp.1 hrc hrs hfr hlo hws hcw (fun a' U hW => word_at hW (Or.inl (by first | rfl | simp [Cond.onTables, Cond.keeps, Cond.steady])) hini)
  obtain ⟨hx, hb, hml, ho, -⟩ := S
  obtain ⟨-, ⟨cellB, hcB, hoB, hclB⟩, hPc⟩ := hp
  intro T hT X
  rcases vx_callVX X hx (C := C) (hh := hh) (bytes := bytes) (maxL := maxL) (ret := ret) ho hl hin hse hcode hy hK (by rw [hT]; exact hcB) hoB hclB hg (hsize.trans hml.symm) (argsL := As) (rest := rest) (fun sig h => hn.trans (hlen sig h)) hstack hW (by rw [hb]; exact hdg)
    (fun vm₁ hW₁ => ⟨hf.1, hf.2, hPc (T.setVm vm₁) hT hW₁⟩) with ⟨v, vm₁, ⟨U', l2, c2, s2⟩, hW₁, X', ⟨g', mk, t, L, e1, e2, hq, h1, hL, h2, h3⟩, st⟩ | ⟨q, vm₁, ⟨U', l2, c2, s2⟩, hW₁, X', ⟨g', mk, t, L, E, ce, e1, e2, hq, hce, hcv, hcl, h1, hL, h2, h3⟩, st⟩
  · dsimp only [Pt.U, Pt.locs, Pt.cells, Pt.slots] at X' e1 e2 h1 h2 h3 st
    subst h1; subst h2; subst h3
    exact Or.inl ⟨v, (T.setVm vm₁).calling g' mk (Value.ref b :: As).toArray, t, U', L, hT, X', hL, e1, e2, hq, st⟩
  · dsimp only [Pt.U, Pt.locs, Pt.cells, Pt.slots] at X' e1 e2 h1 h2 h3 st hcl
    subst h1; subst h2; subst h3
    exact Or.inr ⟨q, (T.setVm vm₁).calling g' mk (Value.ref b :: As).toArray, t, U', L, E, ce, hT, X', hL, e1, e2, hq, hce, hcv, vx_cls hW₁ hcl, st⟩
theorem vx_runSX {hh : List (Nat × Nat × Nat × Nat)} (S : CallFix p m c cc nL s args Ts own) (hM : vx_Met l y ws rm Pc Qc XC mc ms free) (cw : vx_CSW R s args own index y bytes maxL ret hh ws rm mc ms n) (hp : PreS s H Pc As)
    (hg : g.method = m) (hn : As.length = n) (hsize : g.locals.size = nL) (hstack : g.stack = As.reverse ++ rest) (hW : 2 * g.monitorRoom + (rest.map fun v => v.category).sum ≤ 8) (hdg : decode cc g.pc = .ok (.invokestatic index, 3)) (hf : cells + mc ≤ R.cells ∧ slots + ms ≤ R.slots) :
    vx_Run p l e R s m args below meth c H locs cells slots mc ms g rest (Qc As.toArray) XC free := by
  obtain ⟨⟨hrc, hrs, hfr, hlo, hws, hcw⟩, hcode, hini, hy, hlen, hl, hstt⟩ := cw
  have hK : vx_Back l R p e below s args y 3 8 (PreOf R mc ms Pc) (PostOf Qc mc ms free) (vx_Post XC mc ms free) := vx_backW (hh := hh) (bytes := bytes) (maxL := maxL) (ret := ret) hM hp.1 hrc hrs hfr hlo hws hcw (fun a' U hW => word_at hW (Or.inl (by first | rfl | simp [Cond.onTables, Cond.keeps, Cond.steady])) hini)
  obtain ⟨hx, hb, hml, ho, -⟩ := S
  intro T hT X
  rcases vx_callSX X hx (hh := hh) (bytes := bytes) (maxL := maxL) (ret := ret) ho hl hstt hini hcode hy hK hg (hsize.trans hml.symm) (argsL := As) (rest := rest) (fun sig h => hn.trans (hlen sig h)) hstack hW (by rw [hb]; exact hdg)
    (fun vm₁ hW₁ => ⟨hf.1, hf.2, hp.2 (T.setVm vm₁) hT hW₁⟩) with ⟨v, vm₁, ⟨U', l2, c2, s2⟩, hW₁, X', ⟨g', mk, t, L, e1, e2, hq, h1, hL, h2, h3⟩, st⟩ | ⟨q, vm₁, ⟨U', l2, c2, s2⟩, hW₁, X', ⟨g', mk, t, L, E, ce, e1, e2, hq, hce, hcv, hcl, h1, hL, h2, h3⟩, st⟩
  · dsimp only [Pt.U, Pt.locs, Pt.cells, Pt.slots] at X' e1 e2 h1 h2 h3 st
    subst h1; subst h2; subst h3
    exact Or.inl ⟨v, (T.setVm vm₁).calling g' mk As.toArray, t, U', L, hT, X', hL, e1, e2, hq, st⟩
  · dsimp only [Pt.U, Pt.locs, Pt.cells, Pt.slots] at X' e1 e2 h1 h2 h3 st hcl
    subst h1; subst h2; subst h3
    exact Or.inr ⟨q, (T.setVm vm₁).calling g' mk As.toArray, t, U', L, E, ce, hT, X', hL, e1, e2, hq, hce, hcv, vx_cls hW₁ hcl, st⟩
end
end VXH
theorem vx_ofWH {l : Launch} {y : MethodName} {ws ws' : List Cond} {rm : Room} {Pc : Array Value → State → Prop} {Qc : Array Value → State → Outcome → State → Prop} {XC : String → State → State → Prop} {mc ms : Nat} {free : Addr → Prop} {cc : ByteArray} {maxL : Nat} {ret : Option FieldType} {hh : List (Nat × Nat × Nat × Nat)}
    (hy : plainName y.cls = true) (hw : ws = Cond.codeWith y cc maxL ret hh :: ws')
    (body : ∀ p e s m args below meth c s₁, BodyLoose p l y (headSpec ws rm) cc maxL ret e s m args below meth c s₁ → c.maxLocals = maxL → Pc args s →
      W p l e (headSpec ws rm).room s m args below meth c s.heap [] 0 0 (vx_MQ below Qc XC args s mc ms free) (entryFrame m args maxL)) : vx_Met l y ws rm Pc Qc XC mc ms free := by
  refine MetFree.of_bodyS (code := cc) (maxLocals := maxL) (ret := ret) hy ?_ ?_
  · intro args s m h hn
    obtain ⟨m9, meth, c, hn9, h1, h2, h3, h4, -, h5, h6, -⟩ := Cond.codeWith_spec (atoms_spec (ws := ws) h _ (by rw [hw]; exact List.mem_cons_self))
    cases hn.symm.trans hn9
    exact ⟨meth, c, h1, h2, h3, h4, h5, h6⟩
  · intro p e s m args below meth c s₁ B hml hP _
    have hh0 : s₁.heap = s.heap := by rw [B.state]; rfl
    obtain ⟨t, a1, o, b1, b2, b3⟩ := body p e s m args below meth c s₁ B hml hP s₁ hh0 (Stand.of_body B)
    exact ⟨t, o, a1, b1, b2, b3⟩
/-! ===== END ===== -/
end
section
def RX0 : String := "WidowPennies$Book"
def TX0 : u_T := fun k => match k with
  | 0 => ("WidowPennies$Book", "tables", "LWidowPennies$Tables;", true)
  | 1 => ("WidowPennies$Book", "widows", "[LWidowPennies$Widow;", true)
  | 2 => ("WidowPennies$Book", "written", "I", false)
  | 3 => ("WidowPennies$Book", "chest", "I", false)
  | 4 => ("WidowPennies$Book", "paidOut", "I", false)
  | 5 => ("WidowPennies$Book", "prices", "I", false)
  | _ => ("WidowPennies$Book", "year", "I", false)
def tyX0 : Nat → FieldType := fun k => match k with
  | 0 => .object "WidowPennies$Tables"
  | 1 => .array (.object "WidowPennies$Widow")
  | 2 => .int
  | 3 => .int
  | 4 => .int
  | 5 => .int
  | _ => .int
abbrev wsX00 : List Cond := u_ws RX0 TX0 7
theorem nmX0 : ∀ a, a < 7 → ∀ b, b < 7 → a ≠ b → (TX0 a).2.1 ≠ (TX0 b).2.1 := by decide +kernel
theorem tyX0_ok : ∀ k, k < 7 → parseFieldDescriptor (TX0 k).2.2.1 = some (tyX0 k) := by decide +kernel
abbrev cX0_init : ByteArray := prog_2_method_1_code
def yX0_init : MethodName := ⟨RX0, "<init>", "(LWidowPennies$Tables;)V"⟩
abbrev cX0_isFull : ByteArray := prog_2_method_2_code
def yX0_isFull : MethodName := ⟨RX0, "isFull", "()Z"⟩
abbrev cX0_widowAt : ByteArray := prog_2_method_3_code
def yX0_widowAt : MethodName := ⟨RX0, "widowAt", "(I)LWidowPennies$Widow;"⟩
abbrev cX0_write : ByteArray := prog_2_method_4_code
def yX0_write : MethodName := ⟨RX0, "write", "(IIII)I"⟩
abbrev cX0_takeIn : ByteArray := prog_2_method_5_code
def yX0_takeIn : MethodName := ⟨RX0, "takeIn", "(I)V"⟩
abbrev cX0_payOut : ByteArray := prog_2_method_6_code
def yX0_payOut : MethodName := ⟨RX0, "payOut", "(I)V"⟩
abbrev cX0_copy : ByteArray := prog_2_method_7_code
def yX0_copy : MethodName := ⟨RX0, "copy", "(LWidowPennies$Book;)V"⟩
abbrev cX0_passYears : ByteArray := prog_2_method_8_code
def yX0_passYears : MethodName := ⟨RX0, "passYears", "(I)V"⟩
abbrev cX0_passYear : ByteArray := prog_2_method_9_code
def yX0_passYear : MethodName := ⟨RX0, "passYear", "()V"⟩
abbrev cX0_tell : ByteArray := prog_2_method_10_code
def yX0_tell : MethodName := ⟨RX0, "tell", "(I)I"⟩
abbrev cX0_keptForAll : ByteArray := prog_2_method_11_code
def yX0_keptForAll : MethodName := ⟨RX0, "keptForAll", "(I)I"⟩
abbrev cX0_living : ByteArray := prog_2_method_12_code
def yX0_living : MethodName := ⟨RX0, "living", "()I"⟩
abbrev cX0_agesOfLiving : ByteArray := prog_2_method_13_code
def yX0_agesOfLiving : MethodName := ⟨RX0, "agesOfLiving", "()I"⟩
abbrev cX0_sumsDue : ByteArray := prog_2_method_14_code
def yX0_sumsDue : MethodName := ⟨RX0, "sumsDue", "()I"⟩
def RX1 : String := "WidowPennies$Tables"
def TX1 : u_T := fun k => match k with
  | 0 => ("WidowPennies$Tables", "deaths", "[I", true)
  | _ => ("WidowPennies$Tables", "rates", "[I", true)
def tyX1 : Nat → FieldType := fun k => match k with
  | 0 => .array .int
  | _ => .array .int
abbrev wsX10 : List Cond := u_ws RX1 TX1 2
theorem nmX1 : ∀ a, a < 2 → ∀ b, b < 2 → a ≠ b → (TX1 a).2.1 ≠ (TX1 b).2.1 := by decide +kernel
theorem tyX1_ok : ∀ k, k < 2 → parseFieldDescriptor (TX1 k).2.2.1 = some (tyX1 k) := by decide +kernel
abbrev cX1_init : ByteArray := prog_3_method_1_code
def yX1_init : MethodName := ⟨RX1, "<init>", "()V"⟩
abbrev cX1_deathsAt : ByteArray := prog_3_method_2_code
def yX1_deathsAt : MethodName := ⟨RX1, "deathsAt", "(I)I"⟩
abbrev cX1_changeDeaths : ByteArray := prog_3_method_3_code
def yX1_changeDeaths : MethodName := ⟨RX1, "changeDeaths", "(II)V"⟩
abbrev cX1_rate : ByteArray := prog_3_method_4_code
def yX1_rate : MethodName := ⟨RX1, "rate", "(I)I"⟩
abbrev cX1_changeRate : ByteArray := prog_3_method_5_code
def yX1_changeRate : MethodName := ⟨RX1, "changeRate", "(II)V"⟩
abbrev cX1_worthNow : ByteArray := prog_3_method_6_code
def yX1_worthNow : MethodName := ⟨RX1, "worthNow", "(II)I"⟩
abbrev cX1_worthWith : ByteArray := prog_3_method_7_code
def yX1_worthWith : MethodName := ⟨RX1, "worthWith", "(III)I"⟩
abbrev cX1_priceOf : ByteArray := prog_3_method_8_code
def yX1_priceOf : MethodName := ⟨RX1, "priceOf", "(II)I"⟩
abbrev cX1_greatestSum : ByteArray := prog_3_method_9_code
def yX1_greatestSum : MethodName := ⟨RX1, "greatestSum", "(II)I"⟩
abbrev cX1_leftOfThousand : ByteArray := prog_3_method_10_code
def yX1_leftOfThousand : MethodName := ⟨RX1, "leftOfThousand", "(II)I"⟩
abbrev cX1_keptNow : ByteArray := prog_3_method_11_code
def yX1_keptNow : MethodName := ⟨RX1, "keptNow", "(LWidowPennies$Widow;)I"⟩
abbrev cX1_keptWith : ByteArray := prog_3_method_12_code
def yX1_keptWith : MethodName := ⟨RX1, "keptWith", "(LWidowPennies$Widow;I)I"⟩
abbrev cX1_givenBack : ByteArray := prog_3_method_13_code
def yX1_givenBack : MethodName := ⟨RX1, "givenBack", "(LWidowPennies$Widow;)I"⟩
abbrev cX1_tellOf : ByteArray := prog_3_method_14_code
def yX1_tellOf : MethodName := ⟨RX1, "tellOf", "(LWidowPennies$Widow;I)I"⟩
def RX2 : String := "WidowPennies$Widow"
def TX2 : u_T := fun k => match k with
  | 0 => ("WidowPennies$Widow", "age", "I", false)
  | 1 => ("WidowPennies$Widow", "sum", "I", false)
  | 2 => ("WidowPennies$Widow", "wait", "I", false)
  | 3 => ("WidowPennies$Widow", "held", "I", false)
  | 4 => ("WidowPennies$Widow", "state", "I", false)
  | 5 => ("WidowPennies$Widow", "got", "I", false)
  | _ => ("WidowPennies$Widow", "cost", "I", false)
def tyX2 : Nat → FieldType := fun k => match k with
  | 0 => .int
  | 1 => .int
  | 2 => .int
  | 3 => .int
  | 4 => .int
  | 5 => .int
  | _ => .int
abbrev wsX20 : List Cond := u_ws RX2 TX2 7
theorem nmX2 : ∀ a, a < 7 → ∀ b, b < 7 → a ≠ b → (TX2 a).2.1 ≠ (TX2 b).2.1 := by decide +kernel
theorem tyX2_ok : ∀ k, k < 7 → parseFieldDescriptor (TX2 k).2.2.1 = some (tyX2 k) := by decide +kernel
abbrev cX2_init : ByteArray := prog_4_method_1_code
def yX2_init : MethodName := ⟨RX2, "<init>", "()V"⟩
abbrev cX2_lives : ByteArray := prog_4_method_2_code
def yX2_lives : MethodName := ⟨RX2, "lives", "()Z"⟩
abbrev cX2_canGiveUp : ByteArray := prog_4_method_3_code
def yX2_canGiveUp : MethodName := ⟨RX2, "canGiveUp", "()Z"⟩
abbrev cX2_start : ByteArray := prog_4_method_4_code
def yX2_start : MethodName := ⟨RX2, "start", "(IIII)V"⟩
abbrev cX2_copy : ByteArray := prog_4_method_5_code
def yX2_copy : MethodName := ⟨RX2, "copy", "(LWidowPennies$Widow;)V"⟩
abbrev cX2_liveYear : ByteArray := prog_4_method_6_code
def yX2_liveYear : MethodName := ⟨RX2, "liveYear", "()I"⟩
def RX3 : String := "WidowPennies"
def TX3 : u_T := fun k => match k with
  | 0 => ("WidowPennies", "tables", "LWidowPennies$Tables;", true)
  | 1 => ("WidowPennies", "book", "LWidowPennies$Book;", true)
  | _ => ("WidowPennies", "trial", "LWidowPennies$Book;", true)
def tyX3 : Nat → FieldType := fun k => match k with
  | 0 => .object "WidowPennies$Tables"
  | 1 => .object "WidowPennies$Book"
  | _ => .object "WidowPennies$Book"
abbrev wsX30 : List Cond := u_ws RX3 TX3 3
theorem nmX3 : ∀ a, a < 3 → ∀ b, b < 3 → a ≠ b → (TX3 a).2.1 ≠ (TX3 b).2.1 := by decide +kernel
theorem tyX3_ok : ∀ k, k < 3 → parseFieldDescriptor (TX3 k).2.2.1 = some (tyX3 k) := by decide +kernel
abbrev cX3_init : ByteArray := prog_1_method_1_code
def yX3_init : MethodName := ⟨RX3, "<init>", "()V"⟩
abbrev cX3_setDeaths : ByteArray := prog_1_method_2_code
def yX3_setDeaths : MethodName := ⟨RX3, "setDeaths", "(II)I"⟩
abbrev cX3_setRate : ByteArray := prog_1_method_3_code
def yX3_setRate : MethodName := ⟨RX3, "setRate", "(II)I"⟩
abbrev cX3_buy : ByteArray := prog_1_method_4_code
def yX3_buy : MethodName := ⟨RX3, "buy", "(III)I"⟩
abbrev cX3_die : ByteArray := prog_1_method_5_code
def yX3_die : MethodName := ⟨RX3, "die", "(I)I"⟩
abbrev cX3_giveUp : ByteArray := prog_1_method_6_code
def yX3_giveUp : MethodName := ⟨RX3, "giveUp", "(I)I"⟩
abbrev cX3_put : ByteArray := prog_1_method_7_code
def yX3_put : MethodName := ⟨RX3, "put", "(I)I"⟩
abbrev cX3_worth : ByteArray := prog_1_method_8_code
def yX3_worth : MethodName := ⟨RX3, "worth", "(II)I"⟩
abbrev cX3_price : ByteArray := prog_1_method_9_code
def yX3_price : MethodName := ⟨RX3, "price", "(III)I"⟩
abbrev cX3_told : ByteArray := prog_1_method_10_code
def yX3_told : MethodName := ⟨RX3, "told", "(II)I"⟩
abbrev cX3_count : ByteArray := prog_1_method_11_code
def yX3_count : MethodName := ⟨RX3, "count", "(I)I"⟩
abbrev cX3_alive : ByteArray := prog_1_method_12_code
def yX3_alive : MethodName := ⟨RX3, "alive", "(II)I"⟩
abbrev cX3_pass : ByteArray := prog_1_method_13_code
def yX3_pass : MethodName := ⟨RX3, "pass", "(I)I"⟩
abbrev cX3_foresee : ByteArray := prog_1_method_14_code
def yX3_foresee : MethodName := ⟨RX3, "foresee", "(II)I"⟩
abbrev cX3_lasts : ByteArray := prog_1_method_15_code
def yX3_lasts : MethodName := ⟨RX3, "lasts", "()I"⟩
abbrev cX3_even : ByteArray := prog_1_method_16_code
def yX3_even : MethodName := ⟨RX3, "even", "()I"⟩
abbrev cX3_affords : ByteArray := prog_1_method_17_code
def yX3_affords : MethodName := ⟨RX3, "affords", "(III)I"⟩
abbrev cX3_mean : ByteArray := prog_1_method_18_code
def yX3_mean : MethodName := ⟨RX3, "mean", "()D"⟩
abbrev cX3_digest : ByteArray := prog_1_method_19_code
def yX3_digest : MethodName := ⟨RX3, "digest", "()J"⟩
abbrev cX3_isAge : ByteArray := prog_1_method_20_code
def yX3_isAge : MethodName := ⟨RX3, "isAge", "(I)Z"⟩
abbrev cX3_checkAge : ByteArray := prog_1_method_21_code
def yX3_checkAge : MethodName := ⟨RX3, "checkAge", "(I)V"⟩
abbrev cX3_checkSum : ByteArray := prog_1_method_22_code
def yX3_checkSum : MethodName := ⟨RX3, "checkSum", "(I)V"⟩
abbrev cX3_checkPutOff : ByteArray := prog_1_method_23_code
def yX3_checkPutOff : MethodName := ⟨RX3, "checkPutOff", "(I)V"⟩
abbrev cX3_checkYearsPassing : ByteArray := prog_1_method_24_code
def yX3_checkYearsPassing : MethodName := ⟨RX3, "checkYearsPassing", "(I)V"⟩
abbrev cX3_checkWidow : ByteArray := prog_1_method_25_code
def yX3_checkWidow : MethodName := ⟨RX3, "checkWidow", "(I)V"⟩
def RX4 : String := "WidowPenniesModel"
def TX4 : u_T := fun k => match k with
  | 0 => ("WidowPenniesModel", "thrown", "I", false)
  | 1 => ("WidowPenniesModel", "widows", "I", false)
  | 2 => ("WidowPenniesModel", "rates", "[I", true)
  | 3 => ("WidowPenniesModel", "deaths", "[I", true)
  | 4 => ("WidowPenniesModel", "rows", "[I", false)
  | 5 => ("WidowPenniesModel", "numbers", "[I", false)
  | _ => ("WidowPenniesModel", "worths", "[I", true)
def tyX4 : Nat → FieldType := fun k => match k with
  | 0 => .int
  | 1 => .int
  | 2 => .array .int
  | 3 => .array .int
  | 4 => .array .int
  | 5 => .array .int
  | _ => .array .int
abbrev wsX40 : List Cond := u_ws RX4 TX4 7
theorem nmX4 : ∀ a, a < 7 → ∀ b, b < 7 → a ≠ b → (TX4 a).2.1 ≠ (TX4 b).2.1 := by decide +kernel
theorem tyX4_ok : ∀ k, k < 7 → parseFieldDescriptor (TX4 k).2.2.1 = some (tyX4 k) := by decide +kernel
abbrev cX4_init : ByteArray := prog_6_method_1_code
def yX4_init : MethodName := ⟨RX4, "<init>", "()V"⟩
abbrev cX4_thrown : ByteArray := prog_6_method_2_code
def yX4_thrown : MethodName := ⟨RX4, "thrown", "()I"⟩
abbrev cX4_fail : ByteArray := prog_6_method_3_code
def yX4_fail : MethodName := ⟨RX4, "fail", "(I)I"⟩
abbrev cX4_isIn : ByteArray := prog_6_method_4_code
def yX4_isIn : MethodName := ⟨RX4, "isIn", "(III)Z"⟩
abbrev cX4_isAge : ByteArray := prog_6_method_5_code
def yX4_isAge : MethodName := ⟨RX4, "isAge", "(I)Z"⟩
abbrev cX4_isLate : ByteArray := prog_6_method_6_code
def yX4_isLate : MethodName := ⟨RX4, "isLate", "(I)Z"⟩
abbrev cX4_isSum : ByteArray := prog_6_method_7_code
def yX4_isSum : MethodName := ⟨RX4, "isSum", "(I)Z"⟩
abbrev cX4_isWidow : ByteArray := prog_6_method_8_code
def yX4_isWidow : MethodName := ⟨RX4, "isWidow", "(I)Z"⟩
abbrev cX4_wi : ByteArray := prog_6_method_9_code
def yX4_wi : MethodName := ⟨RX4, "wi", "(II)I"⟩
abbrev cX4_let : ByteArray := prog_6_method_10_code
def yX4_let : MethodName := ⟨RX4, "let", "(III)V"⟩
abbrev cX4_isAlive : ByteArray := prog_6_method_11_code
def yX4_isAlive : MethodName := ⟨RX4, "isAlive", "(I)Z"⟩
abbrev cX4_reckon : ByteArray := prog_6_method_12_code
def yX4_reckon : MethodName := ⟨RX4, "reckon", "()V"⟩
abbrev cX4_worthOf : ByteArray := prog_6_method_13_code
def yX4_worthOf : MethodName := ⟨RX4, "worthOf", "(II)I"⟩
abbrev cX4_priceOf : ByteArray := prog_6_method_14_code
def yX4_priceOf : MethodName := ⟨RX4, "priceOf", "(III)I"⟩
abbrev cX4_kept : ByteArray := prog_6_method_15_code
def yX4_kept : MethodName := ⟨RX4, "kept", "(I)I"⟩
abbrev cX4_keptForAll : ByteArray := prog_6_method_16_code
def yX4_keptForAll : MethodName := ⟨RX4, "keptForAll", "()I"⟩
abbrev cX4_back : ByteArray := prog_6_method_17_code
def yX4_back : MethodName := ⟨RX4, "back", "(I)I"⟩
abbrev cX4_comeIn : ByteArray := prog_6_method_18_code
def yX4_comeIn : MethodName := ⟨RX4, "comeIn", "(J)V"⟩
abbrev cX4_payOut : ByteArray := prog_6_method_19_code
def yX4_payOut : MethodName := ⟨RX4, "payOut", "(II)V"⟩
abbrev cX4_setDeaths : ByteArray := prog_6_method_20_code
def yX4_setDeaths : MethodName := ⟨RX4, "setDeaths", "(II)I"⟩
abbrev cX4_setRate : ByteArray := prog_6_method_21_code
def yX4_setRate : MethodName := ⟨RX4, "setRate", "(II)I"⟩
abbrev cX4_isBought : ByteArray := prog_6_method_22_code
def yX4_isBought : MethodName := ⟨RX4, "isBought", "(III)Z"⟩
abbrev cX4_buy : ByteArray := prog_6_method_23_code
def yX4_buy : MethodName := ⟨RX4, "buy", "(III)I"⟩
abbrev cX4_die : ByteArray := prog_6_method_24_code
def yX4_die : MethodName := ⟨RX4, "die", "(I)I"⟩
abbrev cX4_giveUp : ByteArray := prog_6_method_25_code
def yX4_giveUp : MethodName := ⟨RX4, "giveUp", "(I)I"⟩
abbrev cX4_put : ByteArray := prog_6_method_26_code
def yX4_put : MethodName := ⟨RX4, "put", "(I)I"⟩
abbrev cX4_worth : ByteArray := prog_6_method_27_code
def yX4_worth : MethodName := ⟨RX4, "worth", "(II)I"⟩
abbrev cX4_price : ByteArray := prog_6_method_28_code
def yX4_price : MethodName := ⟨RX4, "price", "(III)I"⟩
abbrev cX4_widowTold : ByteArray := prog_6_method_29_code
def yX4_widowTold : MethodName := ⟨RX4, "widowTold", "(II)I"⟩
abbrev cX4_told : ByteArray := prog_6_method_30_code
def yX4_told : MethodName := ⟨RX4, "told", "(II)I"⟩
abbrev cX4_counted : ByteArray := prog_6_method_31_code
def yX4_counted : MethodName := ⟨RX4, "counted", "(I)I"⟩
abbrev cX4_count : ByteArray := prog_6_method_32_code
def yX4_count : MethodName := ⟨RX4, "count", "(I)I"⟩
abbrev cX4_alive : ByteArray := prog_6_method_33_code
def yX4_alive : MethodName := ⟨RX4, "alive", "(II)I"⟩
abbrev cX4_copy : ByteArray := prog_6_method_34_code
def yX4_copy : MethodName := ⟨RX4, "copy", "([I)[I"⟩
abbrev cX4_yearOn : ByteArray := prog_6_method_35_code
def yX4_yearOn : MethodName := ⟨RX4, "yearOn", "()V"⟩
abbrev cX4_yearsOn : ByteArray := prog_6_method_36_code
def yX4_yearsOn : MethodName := ⟨RX4, "yearsOn", "(I)V"⟩
abbrev cX4_pass : ByteArray := prog_6_method_37_code
def yX4_pass : MethodName := ⟨RX4, "pass", "(I)I"⟩
abbrev cX4_foresee : ByteArray := prog_6_method_38_code
def yX4_foresee : MethodName := ⟨RX4, "foresee", "(II)I"⟩
abbrev cX4_lasts : ByteArray := prog_6_method_39_code
def yX4_lasts : MethodName := ⟨RX4, "lasts", "()I"⟩
abbrev cX4_even : ByteArray := prog_6_method_40_code
def yX4_even : MethodName := ⟨RX4, "even", "()I"⟩
abbrev cX4_affords : ByteArray := prog_6_method_41_code
def yX4_affords : MethodName := ⟨RX4, "affords", "(III)I"⟩
abbrev cX4_mean : ByteArray := prog_6_method_42_code
def yX4_mean : MethodName := ⟨RX4, "mean", "()D"⟩
abbrev cX4_digest : ByteArray := prog_6_method_43_code
def yX4_digest : MethodName := ⟨RX4, "digest", "()J"⟩
def RJ9 : String := "java/lang/Math"
def TJ9 : u_T := fun k => match k with
  | _ => ("", "", "", false)
def tyJ9 : Nat → FieldType := fun k => match k with
  | _ => .int
abbrev wsJ90 : List Cond := u_ws RJ9 TJ9 0
theorem nmJ9 : ∀ a, a < 0 → ∀ b, b < 0 → a ≠ b → (TJ9 a).2.1 ≠ (TJ9 b).2.1 := by decide +kernel
theorem tyJ9_ok : ∀ k, k < 0 → parseFieldDescriptor (TJ9 k).2.2.1 = some (tyJ9 k) := by decide +kernel
abbrev cJ9_max_7cf53 : ByteArray := prog_11_method_65_code
def yJ9_max_7cf53 : MethodName := ⟨RJ9, "max", "(II)I"⟩
abbrev cJ9_min_f86c9 : ByteArray := prog_11_method_70_code
def yJ9_min_f86c9 : MethodName := ⟨RJ9, "min", "(JJ)J"⟩
def RJ0 : String := "java/lang/String"
def TJ0 : u_T := fun k => match k with
  | _ => ("", "", "", false)
def tyJ0 : Nat → FieldType := fun k => match k with
  | _ => .int
abbrev wsJ00 : List Cond := u_ws RJ0 TJ0 0
theorem nmJ0 : ∀ a, a < 0 → ∀ b, b < 0 → a ≠ b → (TJ0 a).2.1 ≠ (TJ0 b).2.1 := by decide +kernel
theorem tyJ0_ok : ∀ k, k < 0 → parseFieldDescriptor (TJ0 k).2.2.1 = some (tyJ0 k) := by decide +kernel
def RJ10 : String := "java/lang/System"
def TJ10 : u_T := fun k => match k with
  | _ => ("", "", "", false)
def tyJ10 : Nat → FieldType := fun k => match k with
  | _ => .int
abbrev wsJ100 : List Cond := u_ws RJ10 TJ10 0
theorem nmJ10 : ∀ a, a < 0 → ∀ b, b < 0 → a ≠ b → (TJ10 a).2.1 ≠ (TJ10 b).2.1 := by decide +kernel
theorem tyJ10_ok : ∀ k, k < 0 → parseFieldDescriptor (TJ10 k).2.2.1 = some (tyJ10 k) := by decide +kernel
def RL : String := "WidowPenniesLaw"
abbrev cL_setDeaths : ByteArray := method_3_code
def yL_setDeaths : MethodName := ⟨RL, "setDeaths", "(LWidowPennies;II[J)I"⟩
abbrev cL_setRate : ByteArray := method_4_code
def yL_setRate : MethodName := ⟨RL, "setRate", "(LWidowPennies;II[J)I"⟩
abbrev cL_buy : ByteArray := method_5_code
def yL_buy : MethodName := ⟨RL, "buy", "(LWidowPennies;III[J)I"⟩
abbrev cL_die : ByteArray := method_6_code
def yL_die : MethodName := ⟨RL, "die", "(LWidowPennies;I[J)I"⟩
abbrev cL_giveUp : ByteArray := method_7_code
def yL_giveUp : MethodName := ⟨RL, "giveUp", "(LWidowPennies;I[J)I"⟩
abbrev cL_put : ByteArray := method_8_code
def yL_put : MethodName := ⟨RL, "put", "(LWidowPennies;I[J)I"⟩
abbrev cL_worth : ByteArray := method_9_code
def yL_worth : MethodName := ⟨RL, "worth", "(LWidowPennies;II[J)I"⟩
abbrev cL_price : ByteArray := method_10_code
def yL_price : MethodName := ⟨RL, "price", "(LWidowPennies;III[J)I"⟩
abbrev cL_told : ByteArray := method_11_code
def yL_told : MethodName := ⟨RL, "told", "(LWidowPennies;II[J)I"⟩
abbrev cL_count : ByteArray := method_12_code
def yL_count : MethodName := ⟨RL, "count", "(LWidowPennies;I[J)I"⟩
abbrev cL_alive : ByteArray := method_13_code
def yL_alive : MethodName := ⟨RL, "alive", "(LWidowPennies;II[J)I"⟩
abbrev cL_pass : ByteArray := method_14_code
def yL_pass : MethodName := ⟨RL, "pass", "(LWidowPennies;I[J)I"⟩
abbrev cL_foresee : ByteArray := method_15_code
def yL_foresee : MethodName := ⟨RL, "foresee", "(LWidowPennies;II[J)I"⟩
abbrev cL_affords : ByteArray := method_16_code
def yL_affords : MethodName := ⟨RL, "affords", "(LWidowPennies;III[J)I"⟩
abbrev cL_law : ByteArray := code
def yL_law : MethodName := ⟨RL, "law", "([I)Z"⟩
def wsX2_init : List Cond := .code yX2_init cX2_init 1 none :: ([.methodLink RX2 3 objectInit, .instanceMethod objectInit, .code objectInit ⟨#[0xb1]⟩ 1 none])
def wsX0_init : List Cond := .code yX0_init cX0_init 3 none :: ([.methodLink RX0 3 objectInit, .instanceMethod objectInit, .code objectInit ⟨#[0xb1]⟩ 1 none, .fieldLink RX0 9 "WidowPennies$Book" "tables" "LWidowPennies$Tables;", .classLink RX0 15 RX2, .fieldLink RX0 17 "WidowPennies$Book" "widows" "[LWidowPennies$Widow;", .instantiable RX2 7, .initialized RX2, .instanceMethod yX2_init, .code yX2_init cX2_init 1 none, .methodLink RX2 3 objectInit] ++ wsX00 ++ wsX20)
def wsX0_isFull : List Cond := .code yX0_isFull cX0_isFull 1 (some .boolean) :: ([.fieldLink RX0 22 "WidowPennies$Book" "written" "I"] ++ wsX00)
def wsX0_widowAt : List Cond := .code yX0_widowAt cX0_widowAt 2 (some (.object "WidowPennies$Widow")) :: ([.fieldLink RX0 17 "WidowPennies$Book" "widows" "[LWidowPennies$Widow;"] ++ wsX00)
def wsX2_start : List Cond := .code yX2_start cX2_start 5 none :: ([.fieldLink RX2 22 "WidowPennies$Widow" "age" "I", .fieldLink RX2 25 "WidowPennies$Widow" "sum" "I", .fieldLink RX2 28 "WidowPennies$Widow" "wait" "I", .fieldLink RX2 19 "WidowPennies$Widow" "held" "I", .fieldLink RX2 9 "WidowPennies$Widow" "state" "I", .fieldLink RX2 31 "WidowPennies$Widow" "got" "I", .fieldLink RX2 34 "WidowPennies$Widow" "cost" "I"] ++ wsX20)
def wsX0_takeIn : List Cond := .code yX0_takeIn cX0_takeIn 3 none :: ([.fieldLink RX0 41 "WidowPennies$Book" "chest" "I", .constant RX0 44 (99999999)] ++ wsX00)
def wsX0_write_r1 : List Cond := [Cond.fieldLink RX0 22 "WidowPennies$Book" "written" "I", Cond.fieldLink RX0 34 "WidowPennies$Book" "prices" "I", Cond.methodLink RX0 26 yX0_widowAt, Cond.instanceMethod yX0_widowAt, Cond.selects RX0 yX0_widowAt yX0_widowAt, Cond.initialized RX0, Cond.code yX0_widowAt cX0_widowAt 2 (some (.object "WidowPennies$Widow")), Cond.fieldLink RX0 17 "WidowPennies$Book" "widows" "[LWidowPennies$Widow;", Cond.methodLink RX0 30 yX2_start, Cond.instanceMethod yX2_start, Cond.selects RX2 yX2_start yX2_start, Cond.initialized RX2, Cond.code yX2_start cX2_start 5 none, Cond.fieldLink RX2 22 "WidowPennies$Widow" "age" "I", Cond.fieldLink RX2 25 "WidowPennies$Widow" "sum" "I", Cond.fieldLink RX2 28 "WidowPennies$Widow" "wait" "I", Cond.fieldLink RX2 19 "WidowPennies$Widow" "held" "I", Cond.fieldLink RX2 9 "WidowPennies$Widow" "state" "I", Cond.fieldLink RX2 31 "WidowPennies$Widow" "got" "I", Cond.fieldLink RX2 34 "WidowPennies$Widow" "cost" "I", Cond.methodLink RX0 37 yX0_takeIn, Cond.instanceMethod yX0_takeIn, Cond.selects RX0 yX0_takeIn yX0_takeIn, Cond.code yX0_takeIn cX0_takeIn 3 none]
def wsX0_write_r2 : List Cond := [Cond.fieldLink RX0 41 "WidowPennies$Book" "chest" "I", Cond.constant RX0 44 (99999999)]
def wsX0_write : List Cond := .code yX0_write cX0_write 6 (some .int) :: ((wsX0_write_r1 ++ wsX0_write_r2) ++ wsX00 ++ wsX20)
def wsX0_payOut : List Cond := .code yX0_payOut cX0_payOut 2 none :: ([.fieldLink RX0 41 "WidowPennies$Book" "chest" "I", .fieldLink RX0 45 "WidowPennies$Book" "paidOut" "I"] ++ wsX00)
def wsX2_copy : List Cond := .code yX2_copy cX2_copy 2 none :: ([.fieldLink RX2 22 "WidowPennies$Widow" "age" "I", .fieldLink RX2 25 "WidowPennies$Widow" "sum" "I", .fieldLink RX2 28 "WidowPennies$Widow" "wait" "I", .fieldLink RX2 19 "WidowPennies$Widow" "held" "I", .fieldLink RX2 9 "WidowPennies$Widow" "state" "I", .fieldLink RX2 31 "WidowPennies$Widow" "got" "I", .fieldLink RX2 34 "WidowPennies$Widow" "cost" "I"] ++ wsX20)
def wsX0_copy : List Cond := .code yX0_copy cX0_copy 3 none :: ([.fieldLink RX0 22 "WidowPennies$Book" "written" "I", .fieldLink RX0 41 "WidowPennies$Book" "chest" "I", .fieldLink RX0 45 "WidowPennies$Book" "paidOut" "I", .fieldLink RX0 34 "WidowPennies$Book" "prices" "I", .fieldLink RX0 48 "WidowPennies$Book" "year" "I", .fieldLink RX0 17 "WidowPennies$Book" "widows" "[LWidowPennies$Widow;", .methodLink RX0 51 yX2_copy, .instanceMethod yX2_copy, .selects RX2 yX2_copy yX2_copy, .initialized RX2, .code yX2_copy cX2_copy 2 none, .fieldLink RX2 22 "WidowPennies$Widow" "age" "I", .fieldLink RX2 25 "WidowPennies$Widow" "sum" "I", .fieldLink RX2 28 "WidowPennies$Widow" "wait" "I", .fieldLink RX2 19 "WidowPennies$Widow" "held" "I", .fieldLink RX2 9 "WidowPennies$Widow" "state" "I", .fieldLink RX2 31 "WidowPennies$Widow" "got" "I", .fieldLink RX2 34 "WidowPennies$Widow" "cost" "I"] ++ wsX00 ++ wsX20)
def wsX1_rate : List Cond := .code yX1_rate cX1_rate 2 (some .int) :: ([.fieldLink RX1 15 "WidowPennies$Tables" "rates" "[I"] ++ wsX10)
def wsX2_lives : List Cond := .code yX2_lives cX2_lives 1 (some .boolean) :: ([.fieldLink RX2 9 "WidowPennies$Widow" "state" "I"] ++ wsX20)
def wsX2_liveYear : List Cond := .code yX2_liveYear cX2_liveYear 2 (some .int) :: ([.fieldLink RX2 28 "WidowPennies$Widow" "wait" "I", .fieldLink RX2 25 "WidowPennies$Widow" "sum" "I", .fieldLink RX2 31 "WidowPennies$Widow" "got" "I", .fieldLink RX2 22 "WidowPennies$Widow" "age" "I", .fieldLink RX2 19 "WidowPennies$Widow" "held" "I", .fieldLink RX2 9 "WidowPennies$Widow" "state" "I"] ++ wsX20)
def wsX0_passYear_r1 : List Cond := [Cond.fieldLink RX0 41 "WidowPennies$Book" "chest" "I", Cond.fieldLink RX0 9 "WidowPennies$Book" "tables" "LWidowPennies$Tables;", Cond.constantLong RX0 64 (1000), Cond.fieldLink RX0 22 "WidowPennies$Book" "written" "I", Cond.fieldLink RX0 48 "WidowPennies$Book" "year" "I", Cond.methodLink RX0 58 yX1_rate, Cond.instanceMethod yX1_rate, Cond.selects RX1 yX1_rate yX1_rate, Cond.initialized RX1, Cond.code yX1_rate cX1_rate 2 (some .int), Cond.fieldLink RX1 15 "WidowPennies$Tables" "rates" "[I", Cond.methodLink RX0 37 yX0_takeIn, Cond.instanceMethod yX0_takeIn, Cond.selects RX0 yX0_takeIn yX0_takeIn, Cond.initialized RX0, Cond.code yX0_takeIn cX0_takeIn 3 none, Cond.constant RX0 44 (99999999), Cond.methodLink RX0 26 yX0_widowAt, Cond.instanceMethod yX0_widowAt, Cond.selects RX0 yX0_widowAt yX0_widowAt, Cond.code yX0_widowAt cX0_widowAt 2 (some (.object "WidowPennies$Widow")), Cond.fieldLink RX0 17 "WidowPennies$Book" "widows" "[LWidowPennies$Widow;", Cond.methodLink RX0 66 yX2_lives, Cond.instanceMethod yX2_lives]
def wsX0_passYear_r2 : List Cond := [Cond.selects RX2 yX2_lives yX2_lives, Cond.initialized RX2, Cond.code yX2_lives cX2_lives 1 (some .boolean), Cond.fieldLink RX2 9 "WidowPennies$Widow" "state" "I", Cond.methodLink RX0 70 yX2_liveYear, Cond.instanceMethod yX2_liveYear, Cond.selects RX2 yX2_liveYear yX2_liveYear, Cond.code yX2_liveYear cX2_liveYear 2 (some .int), Cond.fieldLink RX2 28 "WidowPennies$Widow" "wait" "I", Cond.fieldLink RX2 25 "WidowPennies$Widow" "sum" "I", Cond.fieldLink RX2 31 "WidowPennies$Widow" "got" "I", Cond.fieldLink RX2 22 "WidowPennies$Widow" "age" "I", Cond.fieldLink RX2 19 "WidowPennies$Widow" "held" "I", Cond.methodLink RX0 74 yX0_payOut, Cond.instanceMethod yX0_payOut, Cond.selects RX0 yX0_payOut yX0_payOut, Cond.code yX0_payOut cX0_payOut 2 none, Cond.fieldLink RX0 45 "WidowPennies$Book" "paidOut" "I"]
def wsX0_passYear : List Cond := .code yX0_passYear cX0_passYear 3 none :: ((wsX0_passYear_r1 ++ wsX0_passYear_r2) ++ wsX00 ++ wsX10 ++ wsX20)
def wsX0_passYears_r1 : List Cond := [Cond.methodLink RX0 55 yX0_passYear, Cond.instanceMethod yX0_passYear, Cond.selects RX0 yX0_passYear yX0_passYear, Cond.initialized RX0, Cond.code yX0_passYear cX0_passYear 3 none, Cond.fieldLink RX0 41 "WidowPennies$Book" "chest" "I", Cond.fieldLink RX0 9 "WidowPennies$Book" "tables" "LWidowPennies$Tables;", Cond.constantLong RX0 64 (1000), Cond.fieldLink RX0 22 "WidowPennies$Book" "written" "I", Cond.fieldLink RX0 48 "WidowPennies$Book" "year" "I", Cond.methodLink RX0 58 yX1_rate, Cond.instanceMethod yX1_rate, Cond.selects RX1 yX1_rate yX1_rate, Cond.initialized RX1, Cond.code yX1_rate cX1_rate 2 (some .int), Cond.fieldLink RX1 15 "WidowPennies$Tables" "rates" "[I", Cond.methodLink RX0 37 yX0_takeIn, Cond.instanceMethod yX0_takeIn, Cond.selects RX0 yX0_takeIn yX0_takeIn, Cond.code yX0_takeIn cX0_takeIn 3 none, Cond.constant RX0 44 (99999999), Cond.methodLink RX0 26 yX0_widowAt, Cond.instanceMethod yX0_widowAt, Cond.selects RX0 yX0_widowAt yX0_widowAt]
def wsX0_passYears_r2 : List Cond := [Cond.code yX0_widowAt cX0_widowAt 2 (some (.object "WidowPennies$Widow")), Cond.fieldLink RX0 17 "WidowPennies$Book" "widows" "[LWidowPennies$Widow;", Cond.methodLink RX0 66 yX2_lives, Cond.instanceMethod yX2_lives, Cond.selects RX2 yX2_lives yX2_lives, Cond.initialized RX2, Cond.code yX2_lives cX2_lives 1 (some .boolean), Cond.fieldLink RX2 9 "WidowPennies$Widow" "state" "I", Cond.methodLink RX0 70 yX2_liveYear, Cond.instanceMethod yX2_liveYear, Cond.selects RX2 yX2_liveYear yX2_liveYear, Cond.code yX2_liveYear cX2_liveYear 2 (some .int), Cond.fieldLink RX2 28 "WidowPennies$Widow" "wait" "I", Cond.fieldLink RX2 25 "WidowPennies$Widow" "sum" "I", Cond.fieldLink RX2 31 "WidowPennies$Widow" "got" "I", Cond.fieldLink RX2 22 "WidowPennies$Widow" "age" "I", Cond.fieldLink RX2 19 "WidowPennies$Widow" "held" "I", Cond.methodLink RX0 74 yX0_payOut, Cond.instanceMethod yX0_payOut, Cond.selects RX0 yX0_payOut yX0_payOut, Cond.code yX0_payOut cX0_payOut 2 none, Cond.fieldLink RX0 45 "WidowPennies$Book" "paidOut" "I"]
def wsX0_passYears : List Cond := .code yX0_passYears cX0_passYears 3 none :: ((wsX0_passYears_r1 ++ wsX0_passYears_r2) ++ wsX00 ++ wsX10 ++ wsX20)
def wsX0_living : List Cond := .code yX0_living cX0_living 3 (some .int) :: ([.fieldLink RX0 22 "WidowPennies$Book" "written" "I", .methodLink RX0 26 yX0_widowAt, .instanceMethod yX0_widowAt, .selects RX0 yX0_widowAt yX0_widowAt, .initialized RX0, .code yX0_widowAt cX0_widowAt 2 (some (.object "WidowPennies$Widow")), .fieldLink RX0 17 "WidowPennies$Book" "widows" "[LWidowPennies$Widow;", .methodLink RX0 66 yX2_lives, .instanceMethod yX2_lives, .selects RX2 yX2_lives yX2_lives, .initialized RX2, .code yX2_lives cX2_lives 1 (some .boolean), .fieldLink RX2 9 "WidowPennies$Widow" "state" "I"] ++ wsX00 ++ wsX20)
def wsX3_isAge : List Cond := .code yX3_isAge cX3_isAge 1 (some .boolean) :: ([])
def wsX1_deathsAt : List Cond := .code yX1_deathsAt cX1_deathsAt 2 (some .int) :: ([.fieldLink RX1 9 "WidowPennies$Tables" "deaths" "[I", .static yX3_isAge, .initialized RX3, .code yX3_isAge cX3_isAge 1 (some .boolean)] ++ wsX10)
def wsX1_worthWith : List Cond := .code yX1_worthWith cX1_worthWith 8 (some .int) :: ([.methodLink RX1 26 yX1_deathsAt, .instanceMethod yX1_deathsAt, .selects RX1 yX1_deathsAt yX1_deathsAt, .initialized RX1, .code yX1_deathsAt cX1_deathsAt 2 (some .int), .fieldLink RX1 9 "WidowPennies$Tables" "deaths" "[I", .static yX3_isAge, .initialized RX3, .code yX3_isAge cX3_isAge 1 (some .boolean)] ++ wsX10)
def wsX1_keptWith : List Cond := .code yX1_keptWith cX1_keptWith 3 (some .int) :: ([.fieldLink RX1 44 "WidowPennies$Widow" "sum" "I", .fieldLink RX1 48 "WidowPennies$Widow" "age" "I", .fieldLink RX1 51 "WidowPennies$Widow" "wait" "I", .methodLink RX1 38 yX2_lives, .instanceMethod yX2_lives, .selects RX2 yX2_lives yX2_lives, .initialized RX2, .code yX2_lives cX2_lives 1 (some .boolean), .fieldLink RX2 9 "WidowPennies$Widow" "state" "I", .methodLink RX1 22 yX1_worthWith, .instanceMethod yX1_worthWith, .selects RX1 yX1_worthWith yX1_worthWith, .initialized RX1, .code yX1_worthWith cX1_worthWith 8 (some .int), .methodLink RX1 26 yX1_deathsAt, .instanceMethod yX1_deathsAt, .selects RX1 yX1_deathsAt yX1_deathsAt, .code yX1_deathsAt cX1_deathsAt 2 (some .int), .fieldLink RX1 9 "WidowPennies$Tables" "deaths" "[I", .static yX3_isAge, .initialized RX3, .code yX3_isAge cX3_isAge 1 (some .boolean)] ++ wsX20 ++ wsX10)
def wsX0_keptForAll_r1 : List Cond := [Cond.fieldLink RX0 22 "WidowPennies$Book" "written" "I", Cond.fieldLink RX0 9 "WidowPennies$Book" "tables" "LWidowPennies$Tables;", Cond.methodLink RX0 26 yX0_widowAt, Cond.instanceMethod yX0_widowAt, Cond.selects RX0 yX0_widowAt yX0_widowAt, Cond.initialized RX0, Cond.code yX0_widowAt cX0_widowAt 2 (some (.object "WidowPennies$Widow")), Cond.fieldLink RX0 17 "WidowPennies$Book" "widows" "[LWidowPennies$Widow;", Cond.methodLink RX0 86 yX1_keptWith, Cond.instanceMethod yX1_keptWith, Cond.selects RX1 yX1_keptWith yX1_keptWith, Cond.initialized RX1, Cond.code yX1_keptWith cX1_keptWith 3 (some .int), Cond.fieldLink RX1 44 "WidowPennies$Widow" "sum" "I", Cond.fieldLink RX1 48 "WidowPennies$Widow" "age" "I", Cond.fieldLink RX1 51 "WidowPennies$Widow" "wait" "I", Cond.methodLink RX1 38 yX2_lives, Cond.instanceMethod yX2_lives, Cond.selects RX2 yX2_lives yX2_lives, Cond.initialized RX2, Cond.code yX2_lives cX2_lives 1 (some .boolean), Cond.fieldLink RX2 9 "WidowPennies$Widow" "state" "I", Cond.methodLink RX1 22 yX1_worthWith, Cond.instanceMethod yX1_worthWith]
def wsX0_keptForAll_r2 : List Cond := [Cond.selects RX1 yX1_worthWith yX1_worthWith, Cond.code yX1_worthWith cX1_worthWith 8 (some .int), Cond.methodLink RX1 26 yX1_deathsAt, Cond.instanceMethod yX1_deathsAt, Cond.selects RX1 yX1_deathsAt yX1_deathsAt, Cond.code yX1_deathsAt cX1_deathsAt 2 (some .int), Cond.fieldLink RX1 9 "WidowPennies$Tables" "deaths" "[I", Cond.static yX3_isAge, Cond.initialized RX3, Cond.code yX3_isAge cX3_isAge 1 (some .boolean)]
def wsX0_keptForAll : List Cond := .code yX0_keptForAll cX0_keptForAll 4 (some .int) :: ((wsX0_keptForAll_r1 ++ wsX0_keptForAll_r2) ++ wsX00 ++ wsX20 ++ wsX10)
def wsX0_sumsDue : List Cond := .code yX0_sumsDue cX0_sumsDue 4 (some .int) :: ([.fieldLink RX0 22 "WidowPennies$Book" "written" "I", .fieldLink RX0 93 "WidowPennies$Widow" "wait" "I", .fieldLink RX0 96 "WidowPennies$Widow" "sum" "I", .methodLink RX0 26 yX0_widowAt, .instanceMethod yX0_widowAt, .selects RX0 yX0_widowAt yX0_widowAt, .initialized RX0, .code yX0_widowAt cX0_widowAt 2 (some (.object "WidowPennies$Widow")), .fieldLink RX0 17 "WidowPennies$Book" "widows" "[LWidowPennies$Widow;", .methodLink RX0 66 yX2_lives, .instanceMethod yX2_lives, .selects RX2 yX2_lives yX2_lives, .initialized RX2, .code yX2_lives cX2_lives 1 (some .boolean), .fieldLink RX2 9 "WidowPennies$Widow" "state" "I"] ++ wsX00 ++ wsX20)
def wsX0_tell_r1 : List Cond := [Cond.fieldLink RX0 48 "WidowPennies$Book" "year" "I", Cond.fieldLink RX0 22 "WidowPennies$Book" "written" "I", Cond.fieldLink RX0 41 "WidowPennies$Book" "chest" "I", Cond.fieldLink RX0 9 "WidowPennies$Book" "tables" "LWidowPennies$Tables;", Cond.fieldLink RX0 45 "WidowPennies$Book" "paidOut" "I", Cond.fieldLink RX0 34 "WidowPennies$Book" "prices" "I", Cond.methodLink RX0 77 yX0_living, Cond.instanceMethod yX0_living, Cond.selects RX0 yX0_living yX0_living, Cond.initialized RX0, Cond.code yX0_living cX0_living 3 (some .int), Cond.methodLink RX0 26 yX0_widowAt, Cond.instanceMethod yX0_widowAt, Cond.selects RX0 yX0_widowAt yX0_widowAt, Cond.code yX0_widowAt cX0_widowAt 2 (some (.object "WidowPennies$Widow")), Cond.fieldLink RX0 17 "WidowPennies$Book" "widows" "[LWidowPennies$Widow;", Cond.methodLink RX0 66 yX2_lives, Cond.instanceMethod yX2_lives, Cond.selects RX2 yX2_lives yX2_lives, Cond.initialized RX2, Cond.code yX2_lives cX2_lives 1 (some .boolean), Cond.fieldLink RX2 9 "WidowPennies$Widow" "state" "I", Cond.methodLink RX0 58 yX1_rate, Cond.instanceMethod yX1_rate]
def wsX0_tell_r2 : List Cond := [Cond.selects RX1 yX1_rate yX1_rate, Cond.initialized RX1, Cond.code yX1_rate cX1_rate 2 (some .int), Cond.fieldLink RX1 15 "WidowPennies$Tables" "rates" "[I", Cond.methodLink RX0 80 yX0_keptForAll, Cond.instanceMethod yX0_keptForAll, Cond.selects RX0 yX0_keptForAll yX0_keptForAll, Cond.code yX0_keptForAll cX0_keptForAll 4 (some .int), Cond.methodLink RX0 86 yX1_keptWith, Cond.instanceMethod yX1_keptWith, Cond.selects RX1 yX1_keptWith yX1_keptWith, Cond.code yX1_keptWith cX1_keptWith 3 (some .int), Cond.fieldLink RX1 44 "WidowPennies$Widow" "sum" "I", Cond.fieldLink RX1 48 "WidowPennies$Widow" "age" "I", Cond.fieldLink RX1 51 "WidowPennies$Widow" "wait" "I", Cond.methodLink RX1 38 yX2_lives, Cond.methodLink RX1 22 yX1_worthWith, Cond.instanceMethod yX1_worthWith, Cond.selects RX1 yX1_worthWith yX1_worthWith, Cond.code yX1_worthWith cX1_worthWith 8 (some .int), Cond.methodLink RX1 26 yX1_deathsAt, Cond.instanceMethod yX1_deathsAt, Cond.selects RX1 yX1_deathsAt yX1_deathsAt, Cond.code yX1_deathsAt cX1_deathsAt 2 (some .int)]
def wsX0_tell_r3 : List Cond := [Cond.fieldLink RX1 9 "WidowPennies$Tables" "deaths" "[I", Cond.static yX3_isAge, Cond.initialized RX3, Cond.code yX3_isAge cX3_isAge 1 (some .boolean), Cond.methodLink RX0 83 yX0_sumsDue, Cond.instanceMethod yX0_sumsDue, Cond.selects RX0 yX0_sumsDue yX0_sumsDue, Cond.code yX0_sumsDue cX0_sumsDue 4 (some .int), Cond.fieldLink RX0 93 "WidowPennies$Widow" "wait" "I", Cond.fieldLink RX0 96 "WidowPennies$Widow" "sum" "I"]
def wsX0_tell : List Cond := .code yX0_tell cX0_tell 2 (some .int) :: ((wsX0_tell_r1 ++ (wsX0_tell_r2 ++ wsX0_tell_r3)) ++ wsX00 ++ wsX20 ++ wsX10)
def wsX0_agesOfLiving : List Cond := .code yX0_agesOfLiving cX0_agesOfLiving 4 (some .int) :: ([.fieldLink RX0 22 "WidowPennies$Book" "written" "I", .fieldLink RX0 90 "WidowPennies$Widow" "age" "I", .methodLink RX0 26 yX0_widowAt, .instanceMethod yX0_widowAt, .selects RX0 yX0_widowAt yX0_widowAt, .initialized RX0, .code yX0_widowAt cX0_widowAt 2 (some (.object "WidowPennies$Widow")), .fieldLink RX0 17 "WidowPennies$Book" "widows" "[LWidowPennies$Widow;", .methodLink RX0 66 yX2_lives, .instanceMethod yX2_lives, .selects RX2 yX2_lives yX2_lives, .initialized RX2, .code yX2_lives cX2_lives 1 (some .boolean), .fieldLink RX2 9 "WidowPennies$Widow" "state" "I"] ++ wsX00 ++ wsX20)
def wsX1_init : List Cond := .code yX1_init cX1_init 2 none :: ([.methodLink RX1 3 objectInit, .instanceMethod objectInit, .code objectInit ⟨#[0xb1]⟩ 1 none, .arrayClass .int, .fieldLink RX1 9 "WidowPennies$Tables" "deaths" "[I", .fieldLink RX1 15 "WidowPennies$Tables" "rates" "[I"] ++ wsX10)
def wsX1_changeDeaths : List Cond := .code yX1_changeDeaths cX1_changeDeaths 3 none :: ([.fieldLink RX1 9 "WidowPennies$Tables" "deaths" "[I", .static yX3_isAge, .initialized RX3, .code yX3_isAge cX3_isAge 1 (some .boolean)] ++ wsX10)
def wsX1_changeRate : List Cond := .code yX1_changeRate cX1_changeRate 3 none :: ([.fieldLink RX1 15 "WidowPennies$Tables" "rates" "[I"] ++ wsX10)
def wsX1_worthNow : List Cond := .code yX1_worthNow cX1_worthNow 3 (some .int) :: ([.fieldLink RX1 15 "WidowPennies$Tables" "rates" "[I", .methodLink RX1 22 yX1_worthWith, .instanceMethod yX1_worthWith, .selects RX1 yX1_worthWith yX1_worthWith, .initialized RX1, .code yX1_worthWith cX1_worthWith 8 (some .int), .methodLink RX1 26 yX1_deathsAt, .instanceMethod yX1_deathsAt, .selects RX1 yX1_deathsAt yX1_deathsAt, .code yX1_deathsAt cX1_deathsAt 2 (some .int), .fieldLink RX1 9 "WidowPennies$Tables" "deaths" "[I", .static yX3_isAge, .initialized RX3, .code yX3_isAge cX3_isAge 1 (some .boolean)] ++ wsX10)
def wsX1_priceOf : List Cond := .code yX1_priceOf cX1_priceOf 5 (some .int) :: ([.fieldLink RX1 15 "WidowPennies$Tables" "rates" "[I"] ++ wsX10)
def wsX1_greatestSum : List Cond := .code yX1_greatestSum cX1_greatestSum 6 (some .int) :: ([.methodLink RX1 30 yX1_priceOf, .instanceMethod yX1_priceOf, .selects RX1 yX1_priceOf yX1_priceOf, .initialized RX1, .code yX1_priceOf cX1_priceOf 5 (some .int), .fieldLink RX1 15 "WidowPennies$Tables" "rates" "[I"] ++ wsX10)
def wsX1_leftOfThousand : List Cond := .code yX1_leftOfThousand cX1_leftOfThousand 5 (some .int) :: ([.methodLink RX1 26 yX1_deathsAt, .instanceMethod yX1_deathsAt, .selects RX1 yX1_deathsAt yX1_deathsAt, .initialized RX1, .code yX1_deathsAt cX1_deathsAt 2 (some .int), .fieldLink RX1 9 "WidowPennies$Tables" "deaths" "[I", .static yX3_isAge, .initialized RX3, .code yX3_isAge cX3_isAge 1 (some .boolean)] ++ wsX10)
def wsX1_keptNow_r1 : List Cond := [Cond.fieldLink RX1 15 "WidowPennies$Tables" "rates" "[I", Cond.methodLink RX1 34 yX1_keptWith, Cond.instanceMethod yX1_keptWith, Cond.selects RX1 yX1_keptWith yX1_keptWith, Cond.initialized RX1, Cond.code yX1_keptWith cX1_keptWith 3 (some .int), Cond.fieldLink RX1 44 "WidowPennies$Widow" "sum" "I", Cond.fieldLink RX1 48 "WidowPennies$Widow" "age" "I", Cond.fieldLink RX1 51 "WidowPennies$Widow" "wait" "I", Cond.methodLink RX1 38 yX2_lives, Cond.instanceMethod yX2_lives, Cond.selects RX2 yX2_lives yX2_lives, Cond.initialized RX2, Cond.code yX2_lives cX2_lives 1 (some .boolean), Cond.fieldLink RX2 9 "WidowPennies$Widow" "state" "I", Cond.methodLink RX1 22 yX1_worthWith, Cond.instanceMethod yX1_worthWith, Cond.selects RX1 yX1_worthWith yX1_worthWith, Cond.code yX1_worthWith cX1_worthWith 8 (some .int), Cond.methodLink RX1 26 yX1_deathsAt, Cond.instanceMethod yX1_deathsAt, Cond.selects RX1 yX1_deathsAt yX1_deathsAt, Cond.code yX1_deathsAt cX1_deathsAt 2 (some .int), Cond.fieldLink RX1 9 "WidowPennies$Tables" "deaths" "[I"]
def wsX1_keptNow_r2 : List Cond := [Cond.static yX3_isAge, Cond.initialized RX3, Cond.code yX3_isAge cX3_isAge 1 (some .boolean)]
def wsX1_keptNow : List Cond := .code yX1_keptNow cX1_keptNow 2 (some .int) :: ((wsX1_keptNow_r1 ++ wsX1_keptNow_r2) ++ wsX10 ++ wsX20)
def wsX2_canGiveUp : List Cond := .code yX2_canGiveUp cX2_canGiveUp 1 (some .boolean) :: ([.fieldLink RX2 19 "WidowPennies$Widow" "held" "I", .methodLink RX2 15 yX2_lives, .instanceMethod yX2_lives, .selects RX2 yX2_lives yX2_lives, .initialized RX2, .code yX2_lives cX2_lives 1 (some .boolean), .fieldLink RX2 9 "WidowPennies$Widow" "state" "I"] ++ wsX20)
def wsX1_givenBack_r1 : List Cond := [Cond.fieldLink RX1 15 "WidowPennies$Tables" "rates" "[I", Cond.methodLink RX1 54 yX2_canGiveUp, Cond.instanceMethod yX2_canGiveUp, Cond.selects RX2 yX2_canGiveUp yX2_canGiveUp, Cond.initialized RX2, Cond.code yX2_canGiveUp cX2_canGiveUp 1 (some .boolean), Cond.fieldLink RX2 19 "WidowPennies$Widow" "held" "I", Cond.methodLink RX2 15 yX2_lives, Cond.instanceMethod yX2_lives, Cond.selects RX2 yX2_lives yX2_lives, Cond.code yX2_lives cX2_lives 1 (some .boolean), Cond.fieldLink RX2 9 "WidowPennies$Widow" "state" "I", Cond.methodLink RX1 57 yX1_keptNow, Cond.instanceMethod yX1_keptNow, Cond.selects RX1 yX1_keptNow yX1_keptNow, Cond.initialized RX1, Cond.code yX1_keptNow cX1_keptNow 2 (some .int), Cond.methodLink RX1 34 yX1_keptWith, Cond.instanceMethod yX1_keptWith, Cond.selects RX1 yX1_keptWith yX1_keptWith, Cond.code yX1_keptWith cX1_keptWith 3 (some .int), Cond.fieldLink RX1 44 "WidowPennies$Widow" "sum" "I", Cond.fieldLink RX1 48 "WidowPennies$Widow" "age" "I", Cond.fieldLink RX1 51 "WidowPennies$Widow" "wait" "I"]
def wsX1_givenBack_r2 : List Cond := [Cond.methodLink RX1 38 yX2_lives, Cond.methodLink RX1 22 yX1_worthWith, Cond.instanceMethod yX1_worthWith, Cond.selects RX1 yX1_worthWith yX1_worthWith, Cond.code yX1_worthWith cX1_worthWith 8 (some .int), Cond.methodLink RX1 26 yX1_deathsAt, Cond.instanceMethod yX1_deathsAt, Cond.selects RX1 yX1_deathsAt yX1_deathsAt, Cond.code yX1_deathsAt cX1_deathsAt 2 (some .int), Cond.fieldLink RX1 9 "WidowPennies$Tables" "deaths" "[I", Cond.static yX3_isAge, Cond.initialized RX3, Cond.code yX3_isAge cX3_isAge 1 (some .boolean)]
def wsX1_givenBack : List Cond := .code yX1_givenBack cX1_givenBack 3 (some .int) :: ((wsX1_givenBack_r1 ++ wsX1_givenBack_r2) ++ wsX10 ++ wsX20)
def wsX1_tellOf_r1 : List Cond := [Cond.fieldLink RX1 48 "WidowPennies$Widow" "age" "I", Cond.fieldLink RX1 44 "WidowPennies$Widow" "sum" "I", Cond.fieldLink RX1 51 "WidowPennies$Widow" "wait" "I", Cond.fieldLink RX1 61 "WidowPennies$Widow" "held" "I", Cond.fieldLink RX1 64 "WidowPennies$Widow" "state" "I", Cond.fieldLink RX1 67 "WidowPennies$Widow" "got" "I", Cond.fieldLink RX1 70 "WidowPennies$Widow" "cost" "I", Cond.methodLink RX1 57 yX1_keptNow, Cond.instanceMethod yX1_keptNow, Cond.selects RX1 yX1_keptNow yX1_keptNow, Cond.initialized RX1, Cond.code yX1_keptNow cX1_keptNow 2 (some .int), Cond.fieldLink RX1 15 "WidowPennies$Tables" "rates" "[I", Cond.methodLink RX1 34 yX1_keptWith, Cond.instanceMethod yX1_keptWith, Cond.selects RX1 yX1_keptWith yX1_keptWith, Cond.code yX1_keptWith cX1_keptWith 3 (some .int), Cond.methodLink RX1 38 yX2_lives, Cond.instanceMethod yX2_lives, Cond.selects RX2 yX2_lives yX2_lives, Cond.initialized RX2, Cond.code yX2_lives cX2_lives 1 (some .boolean), Cond.fieldLink RX2 9 "WidowPennies$Widow" "state" "I", Cond.methodLink RX1 22 yX1_worthWith]
def wsX1_tellOf_r2 : List Cond := [Cond.instanceMethod yX1_worthWith, Cond.selects RX1 yX1_worthWith yX1_worthWith, Cond.code yX1_worthWith cX1_worthWith 8 (some .int), Cond.methodLink RX1 26 yX1_deathsAt, Cond.instanceMethod yX1_deathsAt, Cond.selects RX1 yX1_deathsAt yX1_deathsAt, Cond.code yX1_deathsAt cX1_deathsAt 2 (some .int), Cond.fieldLink RX1 9 "WidowPennies$Tables" "deaths" "[I", Cond.static yX3_isAge, Cond.initialized RX3, Cond.code yX3_isAge cX3_isAge 1 (some .boolean), Cond.methodLink RX1 73 yX1_givenBack, Cond.instanceMethod yX1_givenBack, Cond.selects RX1 yX1_givenBack yX1_givenBack, Cond.code yX1_givenBack cX1_givenBack 3 (some .int), Cond.methodLink RX1 54 yX2_canGiveUp, Cond.instanceMethod yX2_canGiveUp, Cond.selects RX2 yX2_canGiveUp yX2_canGiveUp, Cond.code yX2_canGiveUp cX2_canGiveUp 1 (some .boolean), Cond.fieldLink RX2 19 "WidowPennies$Widow" "held" "I", Cond.methodLink RX2 15 yX2_lives]
def wsX1_tellOf : List Cond := .code yX1_tellOf cX1_tellOf 3 (some .int) :: ((wsX1_tellOf_r1 ++ wsX1_tellOf_r2) ++ wsX20 ++ wsX10)
def wsX3_init_r1 : List Cond := [Cond.methodLink RX3 3 objectInit, Cond.instanceMethod objectInit, Cond.code objectInit ⟨#[0xb1]⟩ 1 none, Cond.classLink RX3 9 RX1, Cond.instantiable RX1 2, Cond.initialized RX1, Cond.fieldLink RX3 12 "WidowPennies" "tables" "LWidowPennies$Tables;", Cond.classLink RX3 16 RX0, Cond.instantiable RX0 7, Cond.initialized RX0, Cond.fieldLink RX3 21 "WidowPennies" "book" "LWidowPennies$Book;", Cond.fieldLink RX3 25 "WidowPennies" "trial" "LWidowPennies$Book;", Cond.methodLink RX3 11 yX1_init, Cond.instanceMethod yX1_init, Cond.code yX1_init cX1_init 2 none, Cond.methodLink RX1 3 objectInit, Cond.arrayClass .int, Cond.fieldLink RX1 9 "WidowPennies$Tables" "deaths" "[I", Cond.fieldLink RX1 15 "WidowPennies$Tables" "rates" "[I", Cond.methodLink RX3 18 yX0_init, Cond.instanceMethod yX0_init, Cond.code yX0_init cX0_init 3 none, Cond.methodLink RX0 3 objectInit, Cond.fieldLink RX0 9 "WidowPennies$Book" "tables" "LWidowPennies$Tables;"]
def wsX3_init_r2 : List Cond := [Cond.classLink RX0 15 RX2, Cond.fieldLink RX0 17 "WidowPennies$Book" "widows" "[LWidowPennies$Widow;", Cond.instantiable RX2 7, Cond.initialized RX2, Cond.instanceMethod yX2_init, Cond.code yX2_init cX2_init 1 none, Cond.methodLink RX2 3 objectInit]
def wsX3_init : List Cond := .code yX3_init cX3_init 1 none :: ((wsX3_init_r1 ++ wsX3_init_r2) ++ wsX10 ++ wsX30 ++ wsX00 ++ wsX20)
def wsX3_setDeaths : List Cond := .code yX3_setDeaths cX3_setDeaths 4 (some .int) :: ([.classLink RX3 32 "java/lang/IndexOutOfBoundsException", .initialized "java/lang/IndexOutOfBoundsException", .classLink RX3 39 "java/lang/IllegalArgumentException", .initialized "java/lang/IllegalArgumentException", .fieldLink RX3 12 "WidowPennies" "tables" "LWidowPennies$Tables;", .methodLink RX3 28 yX3_isAge, .static yX3_isAge, .initialized RX3, .code yX3_isAge cX3_isAge 1 (some .boolean), .methodLink RX3 44 yX1_deathsAt, .instanceMethod yX1_deathsAt, .selects RX1 yX1_deathsAt yX1_deathsAt, .initialized RX1, .code yX1_deathsAt cX1_deathsAt 2 (some .int), .fieldLink RX1 9 "WidowPennies$Tables" "deaths" "[I", .methodLink RX3 48 yX1_changeDeaths, .instanceMethod yX1_changeDeaths, .selects RX1 yX1_changeDeaths yX1_changeDeaths, .code yX1_changeDeaths cX1_changeDeaths 3 none] ++ wsX30 ++ wsX10 ++ (vx_atS RX3 36 "java/lang/IndexOutOfBoundsException" ["java/lang/RuntimeException", "java/lang/Exception"]).filter goodWord ++ (vx_atS RX3 43 "java/lang/IllegalArgumentException" ["java/lang/RuntimeException", "java/lang/Exception"]).filter goodWord)
def wsX3_setRate : List Cond := .code yX3_setRate cX3_setRate 4 (some .int) :: ([.classLink RX3 32 "java/lang/IndexOutOfBoundsException", .initialized "java/lang/IndexOutOfBoundsException", .classLink RX3 39 "java/lang/IllegalArgumentException", .initialized "java/lang/IllegalArgumentException", .fieldLink RX3 12 "WidowPennies" "tables" "LWidowPennies$Tables;", .methodLink RX3 56 yX1_rate, .instanceMethod yX1_rate, .selects RX1 yX1_rate yX1_rate, .initialized RX1, .code yX1_rate cX1_rate 2 (some .int), .fieldLink RX1 15 "WidowPennies$Tables" "rates" "[I", .methodLink RX3 59 yX1_changeRate, .instanceMethod yX1_changeRate, .selects RX1 yX1_changeRate yX1_changeRate, .code yX1_changeRate cX1_changeRate 3 none] ++ wsX30 ++ wsX10 ++ (vx_atS RX3 36 "java/lang/IndexOutOfBoundsException" ["java/lang/RuntimeException", "java/lang/Exception"]).filter goodWord ++ (vx_atS RX3 43 "java/lang/IllegalArgumentException" ["java/lang/RuntimeException", "java/lang/Exception"]).filter goodWord)
def wsX3_checkAge : List Cond := .code yX3_checkAge cX3_checkAge 1 none :: ([.classLink RX3 39 "java/lang/IllegalArgumentException", .initialized "java/lang/IllegalArgumentException", .methodLink RX3 28 yX3_isAge, .static yX3_isAge, .initialized RX3, .code yX3_isAge cX3_isAge 1 (some .boolean)] ++ (vx_atS RX3 43 "java/lang/IllegalArgumentException" ["java/lang/RuntimeException", "java/lang/Exception"]).filter goodWord)
def wsX3_checkSum : List Cond := .code yX3_checkSum cX3_checkSum 1 none :: ([.classLink RX3 39 "java/lang/IllegalArgumentException", .initialized "java/lang/IllegalArgumentException"] ++ (vx_atS RX3 43 "java/lang/IllegalArgumentException" ["java/lang/RuntimeException", "java/lang/Exception"]).filter goodWord)
def wsX3_checkPutOff : List Cond := .code yX3_checkPutOff cX3_checkPutOff 1 none :: ([.classLink RX3 39 "java/lang/IllegalArgumentException", .initialized "java/lang/IllegalArgumentException"] ++ (vx_atS RX3 43 "java/lang/IllegalArgumentException" ["java/lang/RuntimeException", "java/lang/Exception"]).filter goodWord)
def wsX3_buy_r1 : List Cond := [Cond.classLink RX3 76 "java/lang/IllegalStateException", Cond.initialized "java/lang/IllegalStateException", Cond.fieldLink RX3 21 "WidowPennies" "book" "LWidowPennies$Book;", Cond.fieldLink RX3 12 "WidowPennies" "tables" "LWidowPennies$Tables;", Cond.methodLink RX3 62 yX3_checkAge, Cond.static yX3_checkAge, Cond.initialized RX3, Cond.code yX3_checkAge cX3_checkAge 1 none, Cond.classLink RX3 39 "java/lang/IllegalArgumentException", Cond.initialized "java/lang/IllegalArgumentException", Cond.methodLink RX3 28 yX3_isAge, Cond.static yX3_isAge, Cond.code yX3_isAge cX3_isAge 1 (some .boolean), Cond.methodLink RX3 66 yX3_checkSum, Cond.static yX3_checkSum, Cond.code yX3_checkSum cX3_checkSum 1 none, Cond.methodLink RX3 69 yX3_checkPutOff, Cond.static yX3_checkPutOff, Cond.code yX3_checkPutOff cX3_checkPutOff 1 none, Cond.methodLink RX3 72 yX0_isFull, Cond.instanceMethod yX0_isFull, Cond.selects RX0 yX0_isFull yX0_isFull, Cond.initialized RX0, Cond.code yX0_isFull cX0_isFull 1 (some .boolean)]
def wsX3_buy_r2 : List Cond := [Cond.fieldLink RX0 22 "WidowPennies$Book" "written" "I", Cond.methodLink RX3 81 yX1_worthNow, Cond.instanceMethod yX1_worthNow, Cond.selects RX1 yX1_worthNow yX1_worthNow, Cond.initialized RX1, Cond.code yX1_worthNow cX1_worthNow 3 (some .int), Cond.fieldLink RX1 15 "WidowPennies$Tables" "rates" "[I", Cond.methodLink RX1 22 yX1_worthWith, Cond.instanceMethod yX1_worthWith, Cond.selects RX1 yX1_worthWith yX1_worthWith, Cond.code yX1_worthWith cX1_worthWith 8 (some .int), Cond.methodLink RX1 26 yX1_deathsAt, Cond.instanceMethod yX1_deathsAt, Cond.selects RX1 yX1_deathsAt yX1_deathsAt, Cond.code yX1_deathsAt cX1_deathsAt 2 (some .int), Cond.fieldLink RX1 9 "WidowPennies$Tables" "deaths" "[I", Cond.methodLink RX3 87 yX1_priceOf, Cond.instanceMethod yX1_priceOf, Cond.selects RX1 yX1_priceOf yX1_priceOf, Cond.code yX1_priceOf cX1_priceOf 5 (some .int), Cond.methodLink RX3 90 yX0_write, Cond.instanceMethod yX0_write, Cond.selects RX0 yX0_write yX0_write, Cond.code yX0_write cX0_write 6 (some .int)]
def wsX3_buy_r3 : List Cond := [Cond.fieldLink RX0 34 "WidowPennies$Book" "prices" "I", Cond.methodLink RX0 26 yX0_widowAt, Cond.instanceMethod yX0_widowAt, Cond.selects RX0 yX0_widowAt yX0_widowAt, Cond.code yX0_widowAt cX0_widowAt 2 (some (.object "WidowPennies$Widow")), Cond.fieldLink RX0 17 "WidowPennies$Book" "widows" "[LWidowPennies$Widow;", Cond.methodLink RX0 30 yX2_start, Cond.instanceMethod yX2_start, Cond.selects RX2 yX2_start yX2_start, Cond.initialized RX2, Cond.code yX2_start cX2_start 5 none, Cond.fieldLink RX2 22 "WidowPennies$Widow" "age" "I", Cond.fieldLink RX2 25 "WidowPennies$Widow" "sum" "I", Cond.fieldLink RX2 28 "WidowPennies$Widow" "wait" "I", Cond.fieldLink RX2 19 "WidowPennies$Widow" "held" "I", Cond.fieldLink RX2 9 "WidowPennies$Widow" "state" "I", Cond.fieldLink RX2 31 "WidowPennies$Widow" "got" "I", Cond.fieldLink RX2 34 "WidowPennies$Widow" "cost" "I", Cond.methodLink RX0 37 yX0_takeIn, Cond.instanceMethod yX0_takeIn, Cond.selects RX0 yX0_takeIn yX0_takeIn, Cond.code yX0_takeIn cX0_takeIn 3 none, Cond.fieldLink RX0 41 "WidowPennies$Book" "chest" "I", Cond.constant RX0 44 (99999999)]
def wsX3_buy : List Cond := .code yX3_buy cX3_buy 5 (some .int) :: ((wsX3_buy_r1 ++ (wsX3_buy_r2 ++ wsX3_buy_r3)) ++ wsX30 ++ wsX00 ++ wsX10 ++ wsX20 ++ (vx_atS RX3 80 "java/lang/IllegalStateException" ["java/lang/RuntimeException", "java/lang/Exception"]).filter goodWord ++ (vx_atS RX3 43 "java/lang/IllegalArgumentException" ["java/lang/RuntimeException", "java/lang/Exception"]).filter goodWord)
def wsX3_checkWidow : List Cond := .code yX3_checkWidow cX3_checkWidow 2 none :: ([.classLink RX3 32 "java/lang/IndexOutOfBoundsException", .initialized "java/lang/IndexOutOfBoundsException", .fieldLink RX3 21 "WidowPennies" "book" "LWidowPennies$Book;", .fieldLink RX3 191 "WidowPennies$Book" "written" "I"] ++ wsX30 ++ wsX00 ++ (vx_atS RX3 36 "java/lang/IndexOutOfBoundsException" ["java/lang/RuntimeException", "java/lang/Exception"]).filter goodWord)
def wsX3_die_r1 : List Cond := [Cond.classLink RX3 76 "java/lang/IllegalStateException", Cond.initialized "java/lang/IllegalStateException", Cond.fieldLink RX3 21 "WidowPennies" "book" "LWidowPennies$Book;", Cond.fieldLink RX3 12 "WidowPennies" "tables" "LWidowPennies$Tables;", Cond.fieldLink RX3 112 "WidowPennies$Widow" "state" "I", Cond.methodLink RX3 94 yX3_checkWidow, Cond.instanceMethod yX3_checkWidow, Cond.selects RX3 yX3_checkWidow yX3_checkWidow, Cond.initialized RX3, Cond.code yX3_checkWidow cX3_checkWidow 2 none, Cond.classLink RX3 32 "java/lang/IndexOutOfBoundsException", Cond.initialized "java/lang/IndexOutOfBoundsException", Cond.fieldLink RX3 191 "WidowPennies$Book" "written" "I", Cond.methodLink RX3 97 yX0_widowAt, Cond.instanceMethod yX0_widowAt, Cond.selects RX0 yX0_widowAt yX0_widowAt, Cond.initialized RX0, Cond.code yX0_widowAt cX0_widowAt 2 (some (.object "WidowPennies$Widow")), Cond.fieldLink RX0 17 "WidowPennies$Book" "widows" "[LWidowPennies$Widow;", Cond.methodLink RX3 101 yX2_lives, Cond.instanceMethod yX2_lives, Cond.selects RX2 yX2_lives yX2_lives, Cond.initialized RX2, Cond.code yX2_lives cX2_lives 1 (some .boolean)]
def wsX3_die_r2 : List Cond := [Cond.fieldLink RX2 9 "WidowPennies$Widow" "state" "I", Cond.methodLink RX3 108 yX1_keptNow, Cond.instanceMethod yX1_keptNow, Cond.selects RX1 yX1_keptNow yX1_keptNow, Cond.initialized RX1, Cond.code yX1_keptNow cX1_keptNow 2 (some .int), Cond.fieldLink RX1 15 "WidowPennies$Tables" "rates" "[I", Cond.methodLink RX1 34 yX1_keptWith, Cond.instanceMethod yX1_keptWith, Cond.selects RX1 yX1_keptWith yX1_keptWith, Cond.code yX1_keptWith cX1_keptWith 3 (some .int), Cond.fieldLink RX1 44 "WidowPennies$Widow" "sum" "I", Cond.fieldLink RX1 48 "WidowPennies$Widow" "age" "I", Cond.fieldLink RX1 51 "WidowPennies$Widow" "wait" "I", Cond.methodLink RX1 38 yX2_lives, Cond.methodLink RX1 22 yX1_worthWith, Cond.instanceMethod yX1_worthWith, Cond.selects RX1 yX1_worthWith yX1_worthWith, Cond.code yX1_worthWith cX1_worthWith 8 (some .int), Cond.methodLink RX1 26 yX1_deathsAt, Cond.instanceMethod yX1_deathsAt, Cond.selects RX1 yX1_deathsAt yX1_deathsAt, Cond.code yX1_deathsAt cX1_deathsAt 2 (some .int), Cond.fieldLink RX1 9 "WidowPennies$Tables" "deaths" "[I"]
def wsX3_die_r3 : List Cond := [Cond.static yX3_isAge, Cond.code yX3_isAge cX3_isAge 1 (some .boolean)]
def wsX3_die : List Cond := .code yX3_die cX3_die 4 (some .int) :: ((wsX3_die_r1 ++ (wsX3_die_r2 ++ wsX3_die_r3)) ++ wsX30 ++ wsX20 ++ wsX00 ++ wsX10 ++ (vx_atS RX3 80 "java/lang/IllegalStateException" ["java/lang/RuntimeException", "java/lang/Exception"]).filter goodWord ++ (vx_atS RX3 36 "java/lang/IndexOutOfBoundsException" ["java/lang/RuntimeException", "java/lang/Exception"]).filter goodWord)
def wsX3_giveUp_r1 : List Cond := [Cond.classLink RX3 76 "java/lang/IllegalStateException", Cond.initialized "java/lang/IllegalStateException", Cond.fieldLink RX3 21 "WidowPennies" "book" "LWidowPennies$Book;", Cond.fieldLink RX3 12 "WidowPennies" "tables" "LWidowPennies$Tables;", Cond.fieldLink RX3 112 "WidowPennies$Widow" "state" "I", Cond.fieldLink RX3 124 "WidowPennies$Widow" "got" "I", Cond.methodLink RX3 94 yX3_checkWidow, Cond.instanceMethod yX3_checkWidow, Cond.selects RX3 yX3_checkWidow yX3_checkWidow, Cond.initialized RX3, Cond.code yX3_checkWidow cX3_checkWidow 2 none, Cond.classLink RX3 32 "java/lang/IndexOutOfBoundsException", Cond.initialized "java/lang/IndexOutOfBoundsException", Cond.fieldLink RX3 191 "WidowPennies$Book" "written" "I", Cond.methodLink RX3 97 yX0_widowAt, Cond.instanceMethod yX0_widowAt, Cond.selects RX0 yX0_widowAt yX0_widowAt, Cond.initialized RX0, Cond.code yX0_widowAt cX0_widowAt 2 (some (.object "WidowPennies$Widow")), Cond.fieldLink RX0 17 "WidowPennies$Book" "widows" "[LWidowPennies$Widow;", Cond.methodLink RX3 116 yX2_canGiveUp, Cond.instanceMethod yX2_canGiveUp, Cond.selects RX2 yX2_canGiveUp yX2_canGiveUp, Cond.initialized RX2]
def wsX3_giveUp_r2 : List Cond := [Cond.code yX2_canGiveUp cX2_canGiveUp 1 (some .boolean), Cond.fieldLink RX2 19 "WidowPennies$Widow" "held" "I", Cond.methodLink RX2 15 yX2_lives, Cond.instanceMethod yX2_lives, Cond.selects RX2 yX2_lives yX2_lives, Cond.code yX2_lives cX2_lives 1 (some .boolean), Cond.fieldLink RX2 9 "WidowPennies$Widow" "state" "I", Cond.methodLink RX3 121 yX1_givenBack, Cond.instanceMethod yX1_givenBack, Cond.selects RX1 yX1_givenBack yX1_givenBack, Cond.initialized RX1, Cond.code yX1_givenBack cX1_givenBack 3 (some .int), Cond.fieldLink RX1 15 "WidowPennies$Tables" "rates" "[I", Cond.methodLink RX1 54 yX2_canGiveUp, Cond.methodLink RX1 57 yX1_keptNow, Cond.instanceMethod yX1_keptNow, Cond.selects RX1 yX1_keptNow yX1_keptNow, Cond.code yX1_keptNow cX1_keptNow 2 (some .int), Cond.methodLink RX1 34 yX1_keptWith, Cond.instanceMethod yX1_keptWith, Cond.selects RX1 yX1_keptWith yX1_keptWith, Cond.code yX1_keptWith cX1_keptWith 3 (some .int), Cond.fieldLink RX1 44 "WidowPennies$Widow" "sum" "I", Cond.fieldLink RX1 48 "WidowPennies$Widow" "age" "I"]
def wsX3_giveUp_r3 : List Cond := [Cond.fieldLink RX1 51 "WidowPennies$Widow" "wait" "I", Cond.methodLink RX1 38 yX2_lives, Cond.methodLink RX1 22 yX1_worthWith, Cond.instanceMethod yX1_worthWith, Cond.selects RX1 yX1_worthWith yX1_worthWith, Cond.code yX1_worthWith cX1_worthWith 8 (some .int), Cond.methodLink RX1 26 yX1_deathsAt, Cond.instanceMethod yX1_deathsAt, Cond.selects RX1 yX1_deathsAt yX1_deathsAt, Cond.code yX1_deathsAt cX1_deathsAt 2 (some .int), Cond.fieldLink RX1 9 "WidowPennies$Tables" "deaths" "[I", Cond.static yX3_isAge, Cond.code yX3_isAge cX3_isAge 1 (some .boolean), Cond.methodLink RX3 127 yX0_payOut, Cond.instanceMethod yX0_payOut, Cond.selects RX0 yX0_payOut yX0_payOut, Cond.code yX0_payOut cX0_payOut 2 none, Cond.fieldLink RX0 41 "WidowPennies$Book" "chest" "I", Cond.fieldLink RX0 45 "WidowPennies$Book" "paidOut" "I"]
def wsX3_giveUp : List Cond := .code yX3_giveUp cX3_giveUp 4 (some .int) :: ((wsX3_giveUp_r1 ++ (wsX3_giveUp_r2 ++ wsX3_giveUp_r3)) ++ wsX30 ++ wsX20 ++ wsX00 ++ wsX10 ++ (vx_atS RX3 80 "java/lang/IllegalStateException" ["java/lang/RuntimeException", "java/lang/Exception"]).filter goodWord ++ (vx_atS RX3 36 "java/lang/IndexOutOfBoundsException" ["java/lang/RuntimeException", "java/lang/Exception"]).filter goodWord)
def wsX3_put : List Cond := .code yX3_put cX3_put 2 (some .int) :: ([.classLink RX3 39 "java/lang/IllegalArgumentException", .initialized "java/lang/IllegalArgumentException", .constant RX3 130 (-99999), .constant RX3 131 (99999), .fieldLink RX3 21 "WidowPennies" "book" "LWidowPennies$Book;", .fieldLink RX3 137 "WidowPennies$Book" "chest" "I", .methodLink RX3 134 yX0_takeIn, .instanceMethod yX0_takeIn, .selects RX0 yX0_takeIn yX0_takeIn, .initialized RX0, .code yX0_takeIn cX0_takeIn 3 none, .fieldLink RX0 41 "WidowPennies$Book" "chest" "I", .constant RX0 44 (99999999)] ++ wsX30 ++ wsX00 ++ (vx_atS RX3 43 "java/lang/IllegalArgumentException" ["java/lang/RuntimeException", "java/lang/Exception"]).filter goodWord)
def wsX3_worth_r1 : List Cond := [Cond.fieldLink RX3 12 "WidowPennies" "tables" "LWidowPennies$Tables;", Cond.methodLink RX3 62 yX3_checkAge, Cond.static yX3_checkAge, Cond.initialized RX3, Cond.code yX3_checkAge cX3_checkAge 1 none, Cond.classLink RX3 39 "java/lang/IllegalArgumentException", Cond.initialized "java/lang/IllegalArgumentException", Cond.methodLink RX3 28 yX3_isAge, Cond.static yX3_isAge, Cond.code yX3_isAge cX3_isAge 1 (some .boolean), Cond.methodLink RX3 69 yX3_checkPutOff, Cond.static yX3_checkPutOff, Cond.code yX3_checkPutOff cX3_checkPutOff 1 none, Cond.methodLink RX3 81 yX1_worthNow, Cond.instanceMethod yX1_worthNow, Cond.selects RX1 yX1_worthNow yX1_worthNow, Cond.initialized RX1, Cond.code yX1_worthNow cX1_worthNow 3 (some .int), Cond.fieldLink RX1 15 "WidowPennies$Tables" "rates" "[I", Cond.methodLink RX1 22 yX1_worthWith, Cond.instanceMethod yX1_worthWith, Cond.selects RX1 yX1_worthWith yX1_worthWith, Cond.code yX1_worthWith cX1_worthWith 8 (some .int), Cond.methodLink RX1 26 yX1_deathsAt]
def wsX3_worth_r2 : List Cond := [Cond.instanceMethod yX1_deathsAt, Cond.selects RX1 yX1_deathsAt yX1_deathsAt, Cond.code yX1_deathsAt cX1_deathsAt 2 (some .int), Cond.fieldLink RX1 9 "WidowPennies$Tables" "deaths" "[I"]
def wsX3_worth : List Cond := .code yX3_worth cX3_worth 3 (some .int) :: ((wsX3_worth_r1 ++ wsX3_worth_r2) ++ wsX30 ++ wsX10 ++ (vx_atS RX3 43 "java/lang/IllegalArgumentException" ["java/lang/RuntimeException", "java/lang/Exception"]).filter goodWord)
def wsX3_price_r1 : List Cond := [Cond.fieldLink RX3 12 "WidowPennies" "tables" "LWidowPennies$Tables;", Cond.methodLink RX3 62 yX3_checkAge, Cond.static yX3_checkAge, Cond.initialized RX3, Cond.code yX3_checkAge cX3_checkAge 1 none, Cond.classLink RX3 39 "java/lang/IllegalArgumentException", Cond.initialized "java/lang/IllegalArgumentException", Cond.methodLink RX3 28 yX3_isAge, Cond.static yX3_isAge, Cond.code yX3_isAge cX3_isAge 1 (some .boolean), Cond.methodLink RX3 66 yX3_checkSum, Cond.static yX3_checkSum, Cond.code yX3_checkSum cX3_checkSum 1 none, Cond.methodLink RX3 69 yX3_checkPutOff, Cond.static yX3_checkPutOff, Cond.code yX3_checkPutOff cX3_checkPutOff 1 none, Cond.methodLink RX3 81 yX1_worthNow, Cond.instanceMethod yX1_worthNow, Cond.selects RX1 yX1_worthNow yX1_worthNow, Cond.initialized RX1, Cond.code yX1_worthNow cX1_worthNow 3 (some .int), Cond.fieldLink RX1 15 "WidowPennies$Tables" "rates" "[I", Cond.methodLink RX1 22 yX1_worthWith, Cond.instanceMethod yX1_worthWith]
def wsX3_price_r2 : List Cond := [Cond.selects RX1 yX1_worthWith yX1_worthWith, Cond.code yX1_worthWith cX1_worthWith 8 (some .int), Cond.methodLink RX1 26 yX1_deathsAt, Cond.instanceMethod yX1_deathsAt, Cond.selects RX1 yX1_deathsAt yX1_deathsAt, Cond.code yX1_deathsAt cX1_deathsAt 2 (some .int), Cond.fieldLink RX1 9 "WidowPennies$Tables" "deaths" "[I", Cond.methodLink RX3 87 yX1_priceOf, Cond.instanceMethod yX1_priceOf, Cond.selects RX1 yX1_priceOf yX1_priceOf, Cond.code yX1_priceOf cX1_priceOf 5 (some .int)]
def wsX3_price : List Cond := .code yX3_price cX3_price 4 (some .int) :: ((wsX3_price_r1 ++ wsX3_price_r2) ++ wsX30 ++ wsX10 ++ (vx_atS RX3 43 "java/lang/IllegalArgumentException" ["java/lang/RuntimeException", "java/lang/Exception"]).filter goodWord)
def wsX3_told_r1 : List Cond := [Cond.classLink RX3 32 "java/lang/IndexOutOfBoundsException", Cond.initialized "java/lang/IndexOutOfBoundsException", Cond.fieldLink RX3 12 "WidowPennies" "tables" "LWidowPennies$Tables;", Cond.fieldLink RX3 21 "WidowPennies" "book" "LWidowPennies$Book;", Cond.methodLink RX3 94 yX3_checkWidow, Cond.instanceMethod yX3_checkWidow, Cond.selects RX3 yX3_checkWidow yX3_checkWidow, Cond.initialized RX3, Cond.code yX3_checkWidow cX3_checkWidow 2 none, Cond.fieldLink RX3 191 "WidowPennies$Book" "written" "I", Cond.methodLink RX3 97 yX0_widowAt, Cond.instanceMethod yX0_widowAt, Cond.selects RX0 yX0_widowAt yX0_widowAt, Cond.initialized RX0, Cond.code yX0_widowAt cX0_widowAt 2 (some (.object "WidowPennies$Widow")), Cond.fieldLink RX0 17 "WidowPennies$Book" "widows" "[LWidowPennies$Widow;", Cond.methodLink RX3 142 yX1_tellOf, Cond.instanceMethod yX1_tellOf, Cond.selects RX1 yX1_tellOf yX1_tellOf, Cond.initialized RX1, Cond.code yX1_tellOf cX1_tellOf 3 (some .int), Cond.fieldLink RX1 48 "WidowPennies$Widow" "age" "I", Cond.fieldLink RX1 44 "WidowPennies$Widow" "sum" "I", Cond.fieldLink RX1 51 "WidowPennies$Widow" "wait" "I"]
def wsX3_told_r2 : List Cond := [Cond.fieldLink RX1 61 "WidowPennies$Widow" "held" "I", Cond.fieldLink RX1 64 "WidowPennies$Widow" "state" "I", Cond.fieldLink RX1 67 "WidowPennies$Widow" "got" "I", Cond.fieldLink RX1 70 "WidowPennies$Widow" "cost" "I", Cond.methodLink RX1 57 yX1_keptNow, Cond.instanceMethod yX1_keptNow, Cond.selects RX1 yX1_keptNow yX1_keptNow, Cond.code yX1_keptNow cX1_keptNow 2 (some .int), Cond.fieldLink RX1 15 "WidowPennies$Tables" "rates" "[I", Cond.methodLink RX1 34 yX1_keptWith, Cond.instanceMethod yX1_keptWith, Cond.selects RX1 yX1_keptWith yX1_keptWith, Cond.code yX1_keptWith cX1_keptWith 3 (some .int), Cond.methodLink RX1 38 yX2_lives, Cond.instanceMethod yX2_lives, Cond.selects RX2 yX2_lives yX2_lives, Cond.initialized RX2, Cond.code yX2_lives cX2_lives 1 (some .boolean), Cond.fieldLink RX2 9 "WidowPennies$Widow" "state" "I", Cond.methodLink RX1 22 yX1_worthWith, Cond.instanceMethod yX1_worthWith, Cond.selects RX1 yX1_worthWith yX1_worthWith, Cond.code yX1_worthWith cX1_worthWith 8 (some .int), Cond.methodLink RX1 26 yX1_deathsAt]
def wsX3_told_r3 : List Cond := [Cond.instanceMethod yX1_deathsAt, Cond.selects RX1 yX1_deathsAt yX1_deathsAt, Cond.code yX1_deathsAt cX1_deathsAt 2 (some .int), Cond.fieldLink RX1 9 "WidowPennies$Tables" "deaths" "[I", Cond.static yX3_isAge, Cond.code yX3_isAge cX3_isAge 1 (some .boolean), Cond.methodLink RX1 73 yX1_givenBack, Cond.instanceMethod yX1_givenBack, Cond.selects RX1 yX1_givenBack yX1_givenBack, Cond.code yX1_givenBack cX1_givenBack 3 (some .int), Cond.methodLink RX1 54 yX2_canGiveUp, Cond.instanceMethod yX2_canGiveUp, Cond.selects RX2 yX2_canGiveUp yX2_canGiveUp, Cond.code yX2_canGiveUp cX2_canGiveUp 1 (some .boolean), Cond.fieldLink RX2 19 "WidowPennies$Widow" "held" "I", Cond.methodLink RX2 15 yX2_lives]
def wsX3_told : List Cond := .code yX3_told cX3_told 3 (some .int) :: ((wsX3_told_r1 ++ (wsX3_told_r2 ++ wsX3_told_r3)) ++ wsX30 ++ wsX00 ++ wsX20 ++ wsX10 ++ (vx_atS RX3 36 "java/lang/IndexOutOfBoundsException" ["java/lang/RuntimeException", "java/lang/Exception"]).filter goodWord)
def wsX3_count_r1 : List Cond := [Cond.classLink RX3 32 "java/lang/IndexOutOfBoundsException", Cond.initialized "java/lang/IndexOutOfBoundsException", Cond.fieldLink RX3 21 "WidowPennies" "book" "LWidowPennies$Book;", Cond.methodLink RX3 146 yX0_tell, Cond.instanceMethod yX0_tell, Cond.selects RX0 yX0_tell yX0_tell, Cond.initialized RX0, Cond.code yX0_tell cX0_tell 2 (some .int), Cond.fieldLink RX0 48 "WidowPennies$Book" "year" "I", Cond.fieldLink RX0 22 "WidowPennies$Book" "written" "I", Cond.fieldLink RX0 41 "WidowPennies$Book" "chest" "I", Cond.fieldLink RX0 9 "WidowPennies$Book" "tables" "LWidowPennies$Tables;", Cond.fieldLink RX0 45 "WidowPennies$Book" "paidOut" "I", Cond.fieldLink RX0 34 "WidowPennies$Book" "prices" "I", Cond.methodLink RX0 77 yX0_living, Cond.instanceMethod yX0_living, Cond.selects RX0 yX0_living yX0_living, Cond.code yX0_living cX0_living 3 (some .int), Cond.methodLink RX0 26 yX0_widowAt, Cond.instanceMethod yX0_widowAt, Cond.selects RX0 yX0_widowAt yX0_widowAt, Cond.code yX0_widowAt cX0_widowAt 2 (some (.object "WidowPennies$Widow")), Cond.fieldLink RX0 17 "WidowPennies$Book" "widows" "[LWidowPennies$Widow;", Cond.methodLink RX0 66 yX2_lives]
def wsX3_count_r2 : List Cond := [Cond.instanceMethod yX2_lives, Cond.selects RX2 yX2_lives yX2_lives, Cond.initialized RX2, Cond.code yX2_lives cX2_lives 1 (some .boolean), Cond.fieldLink RX2 9 "WidowPennies$Widow" "state" "I", Cond.methodLink RX0 58 yX1_rate, Cond.instanceMethod yX1_rate, Cond.selects RX1 yX1_rate yX1_rate, Cond.initialized RX1, Cond.code yX1_rate cX1_rate 2 (some .int), Cond.fieldLink RX1 15 "WidowPennies$Tables" "rates" "[I", Cond.methodLink RX0 80 yX0_keptForAll, Cond.instanceMethod yX0_keptForAll, Cond.selects RX0 yX0_keptForAll yX0_keptForAll, Cond.code yX0_keptForAll cX0_keptForAll 4 (some .int), Cond.methodLink RX0 86 yX1_keptWith, Cond.instanceMethod yX1_keptWith, Cond.selects RX1 yX1_keptWith yX1_keptWith, Cond.code yX1_keptWith cX1_keptWith 3 (some .int), Cond.fieldLink RX1 44 "WidowPennies$Widow" "sum" "I", Cond.fieldLink RX1 48 "WidowPennies$Widow" "age" "I", Cond.fieldLink RX1 51 "WidowPennies$Widow" "wait" "I", Cond.methodLink RX1 38 yX2_lives, Cond.methodLink RX1 22 yX1_worthWith]
def wsX3_count_r3 : List Cond := [Cond.instanceMethod yX1_worthWith, Cond.selects RX1 yX1_worthWith yX1_worthWith, Cond.code yX1_worthWith cX1_worthWith 8 (some .int), Cond.methodLink RX1 26 yX1_deathsAt, Cond.instanceMethod yX1_deathsAt, Cond.selects RX1 yX1_deathsAt yX1_deathsAt, Cond.code yX1_deathsAt cX1_deathsAt 2 (some .int), Cond.fieldLink RX1 9 "WidowPennies$Tables" "deaths" "[I", Cond.static yX3_isAge, Cond.initialized RX3, Cond.code yX3_isAge cX3_isAge 1 (some .boolean), Cond.methodLink RX0 83 yX0_sumsDue, Cond.instanceMethod yX0_sumsDue, Cond.selects RX0 yX0_sumsDue yX0_sumsDue, Cond.code yX0_sumsDue cX0_sumsDue 4 (some .int), Cond.fieldLink RX0 93 "WidowPennies$Widow" "wait" "I", Cond.fieldLink RX0 96 "WidowPennies$Widow" "sum" "I"]
def wsX3_count : List Cond := .code yX3_count cX3_count 2 (some .int) :: ((wsX3_count_r1 ++ (wsX3_count_r2 ++ wsX3_count_r3)) ++ wsX30 ++ wsX00 ++ wsX20 ++ wsX10 ++ (vx_atS RX3 36 "java/lang/IndexOutOfBoundsException" ["java/lang/RuntimeException", "java/lang/Exception"]).filter goodWord)
def wsX3_alive : List Cond := .code yX3_alive cX3_alive 3 (some .int) :: ([.classLink RX3 39 "java/lang/IllegalArgumentException", .initialized "java/lang/IllegalArgumentException", .fieldLink RX3 12 "WidowPennies" "tables" "LWidowPennies$Tables;", .methodLink RX3 62 yX3_checkAge, .static yX3_checkAge, .initialized RX3, .code yX3_checkAge cX3_checkAge 1 none, .methodLink RX3 28 yX3_isAge, .static yX3_isAge, .code yX3_isAge cX3_isAge 1 (some .boolean), .methodLink RX3 151 yX1_leftOfThousand, .instanceMethod yX1_leftOfThousand, .selects RX1 yX1_leftOfThousand yX1_leftOfThousand, .initialized RX1, .code yX1_leftOfThousand cX1_leftOfThousand 5 (some .int), .methodLink RX1 26 yX1_deathsAt, .instanceMethod yX1_deathsAt, .selects RX1 yX1_deathsAt yX1_deathsAt, .code yX1_deathsAt cX1_deathsAt 2 (some .int), .fieldLink RX1 9 "WidowPennies$Tables" "deaths" "[I"] ++ wsX30 ++ wsX10 ++ (vx_atS RX3 43 "java/lang/IllegalArgumentException" ["java/lang/RuntimeException", "java/lang/Exception"]).filter goodWord)
def wsX3_checkYearsPassing : List Cond := .code yX3_checkYearsPassing cX3_checkYearsPassing 1 none :: ([.classLink RX3 39 "java/lang/IllegalArgumentException", .initialized "java/lang/IllegalArgumentException"] ++ (vx_atS RX3 43 "java/lang/IllegalArgumentException" ["java/lang/RuntimeException", "java/lang/Exception"]).filter goodWord)
def wsX3_pass_r1 : List Cond := [Cond.fieldLink RX3 21 "WidowPennies" "book" "LWidowPennies$Book;", Cond.fieldLink RX3 157 "WidowPennies$Book" "paidOut" "I", Cond.methodLink RX3 154 yX3_checkYearsPassing, Cond.static yX3_checkYearsPassing, Cond.initialized RX3, Cond.code yX3_checkYearsPassing cX3_checkYearsPassing 1 none, Cond.classLink RX3 39 "java/lang/IllegalArgumentException", Cond.initialized "java/lang/IllegalArgumentException", Cond.methodLink RX3 160 yX0_passYears, Cond.instanceMethod yX0_passYears, Cond.selects RX0 yX0_passYears yX0_passYears, Cond.initialized RX0, Cond.code yX0_passYears cX0_passYears 3 none, Cond.methodLink RX0 55 yX0_passYear, Cond.instanceMethod yX0_passYear, Cond.selects RX0 yX0_passYear yX0_passYear, Cond.code yX0_passYear cX0_passYear 3 none, Cond.fieldLink RX0 41 "WidowPennies$Book" "chest" "I", Cond.fieldLink RX0 9 "WidowPennies$Book" "tables" "LWidowPennies$Tables;", Cond.constantLong RX0 64 (1000), Cond.fieldLink RX0 22 "WidowPennies$Book" "written" "I", Cond.fieldLink RX0 48 "WidowPennies$Book" "year" "I", Cond.methodLink RX0 58 yX1_rate, Cond.instanceMethod yX1_rate]
def wsX3_pass_r2 : List Cond := [Cond.selects RX1 yX1_rate yX1_rate, Cond.initialized RX1, Cond.code yX1_rate cX1_rate 2 (some .int), Cond.fieldLink RX1 15 "WidowPennies$Tables" "rates" "[I", Cond.methodLink RX0 37 yX0_takeIn, Cond.instanceMethod yX0_takeIn, Cond.selects RX0 yX0_takeIn yX0_takeIn, Cond.code yX0_takeIn cX0_takeIn 3 none, Cond.constant RX0 44 (99999999), Cond.methodLink RX0 26 yX0_widowAt, Cond.instanceMethod yX0_widowAt, Cond.selects RX0 yX0_widowAt yX0_widowAt, Cond.code yX0_widowAt cX0_widowAt 2 (some (.object "WidowPennies$Widow")), Cond.fieldLink RX0 17 "WidowPennies$Book" "widows" "[LWidowPennies$Widow;", Cond.methodLink RX0 66 yX2_lives, Cond.instanceMethod yX2_lives, Cond.selects RX2 yX2_lives yX2_lives, Cond.initialized RX2, Cond.code yX2_lives cX2_lives 1 (some .boolean), Cond.fieldLink RX2 9 "WidowPennies$Widow" "state" "I", Cond.methodLink RX0 70 yX2_liveYear, Cond.instanceMethod yX2_liveYear, Cond.selects RX2 yX2_liveYear yX2_liveYear, Cond.code yX2_liveYear cX2_liveYear 2 (some .int)]
def wsX3_pass_r3 : List Cond := [Cond.fieldLink RX2 28 "WidowPennies$Widow" "wait" "I", Cond.fieldLink RX2 25 "WidowPennies$Widow" "sum" "I", Cond.fieldLink RX2 31 "WidowPennies$Widow" "got" "I", Cond.fieldLink RX2 22 "WidowPennies$Widow" "age" "I", Cond.fieldLink RX2 19 "WidowPennies$Widow" "held" "I", Cond.methodLink RX0 74 yX0_payOut, Cond.instanceMethod yX0_payOut, Cond.selects RX0 yX0_payOut yX0_payOut, Cond.code yX0_payOut cX0_payOut 2 none, Cond.fieldLink RX0 45 "WidowPennies$Book" "paidOut" "I"]
def wsX3_pass : List Cond := .code yX3_pass cX3_pass 3 (some .int) :: ((wsX3_pass_r1 ++ (wsX3_pass_r2 ++ wsX3_pass_r3)) ++ wsX30 ++ wsX00 ++ wsX10 ++ wsX20 ++ (vx_atS RX3 43 "java/lang/IllegalArgumentException" ["java/lang/RuntimeException", "java/lang/Exception"]).filter goodWord)
def wsX3_foresee_r1 : List Cond := [Cond.classLink RX3 32 "java/lang/IndexOutOfBoundsException", Cond.initialized "java/lang/IndexOutOfBoundsException", Cond.fieldLink RX3 25 "WidowPennies" "trial" "LWidowPennies$Book;", Cond.fieldLink RX3 21 "WidowPennies" "book" "LWidowPennies$Book;", Cond.methodLink RX3 154 yX3_checkYearsPassing, Cond.static yX3_checkYearsPassing, Cond.initialized RX3, Cond.code yX3_checkYearsPassing cX3_checkYearsPassing 1 none, Cond.classLink RX3 39 "java/lang/IllegalArgumentException", Cond.initialized "java/lang/IllegalArgumentException", Cond.methodLink RX3 165 yX0_copy, Cond.instanceMethod yX0_copy, Cond.selects RX0 yX0_copy yX0_copy, Cond.initialized RX0, Cond.code yX0_copy cX0_copy 3 none, Cond.fieldLink RX0 22 "WidowPennies$Book" "written" "I", Cond.fieldLink RX0 41 "WidowPennies$Book" "chest" "I", Cond.fieldLink RX0 45 "WidowPennies$Book" "paidOut" "I", Cond.fieldLink RX0 34 "WidowPennies$Book" "prices" "I", Cond.fieldLink RX0 48 "WidowPennies$Book" "year" "I", Cond.fieldLink RX0 17 "WidowPennies$Book" "widows" "[LWidowPennies$Widow;", Cond.methodLink RX0 51 yX2_copy, Cond.instanceMethod yX2_copy, Cond.selects RX2 yX2_copy yX2_copy]
def wsX3_foresee_r2 : List Cond := [Cond.initialized RX2, Cond.code yX2_copy cX2_copy 2 none, Cond.fieldLink RX2 22 "WidowPennies$Widow" "age" "I", Cond.fieldLink RX2 25 "WidowPennies$Widow" "sum" "I", Cond.fieldLink RX2 28 "WidowPennies$Widow" "wait" "I", Cond.fieldLink RX2 19 "WidowPennies$Widow" "held" "I", Cond.fieldLink RX2 9 "WidowPennies$Widow" "state" "I", Cond.fieldLink RX2 31 "WidowPennies$Widow" "got" "I", Cond.fieldLink RX2 34 "WidowPennies$Widow" "cost" "I", Cond.methodLink RX3 160 yX0_passYears, Cond.instanceMethod yX0_passYears, Cond.selects RX0 yX0_passYears yX0_passYears, Cond.code yX0_passYears cX0_passYears 3 none, Cond.methodLink RX0 55 yX0_passYear, Cond.instanceMethod yX0_passYear, Cond.selects RX0 yX0_passYear yX0_passYear, Cond.code yX0_passYear cX0_passYear 3 none, Cond.fieldLink RX0 9 "WidowPennies$Book" "tables" "LWidowPennies$Tables;", Cond.constantLong RX0 64 (1000), Cond.methodLink RX0 58 yX1_rate, Cond.instanceMethod yX1_rate, Cond.selects RX1 yX1_rate yX1_rate, Cond.initialized RX1, Cond.code yX1_rate cX1_rate 2 (some .int)]
def wsX3_foresee_r3 : List Cond := [Cond.fieldLink RX1 15 "WidowPennies$Tables" "rates" "[I", Cond.methodLink RX0 37 yX0_takeIn, Cond.instanceMethod yX0_takeIn, Cond.selects RX0 yX0_takeIn yX0_takeIn, Cond.code yX0_takeIn cX0_takeIn 3 none, Cond.constant RX0 44 (99999999), Cond.methodLink RX0 26 yX0_widowAt, Cond.instanceMethod yX0_widowAt, Cond.selects RX0 yX0_widowAt yX0_widowAt, Cond.code yX0_widowAt cX0_widowAt 2 (some (.object "WidowPennies$Widow")), Cond.methodLink RX0 66 yX2_lives, Cond.instanceMethod yX2_lives, Cond.selects RX2 yX2_lives yX2_lives, Cond.code yX2_lives cX2_lives 1 (some .boolean), Cond.methodLink RX0 70 yX2_liveYear, Cond.instanceMethod yX2_liveYear, Cond.selects RX2 yX2_liveYear yX2_liveYear, Cond.code yX2_liveYear cX2_liveYear 2 (some .int), Cond.methodLink RX0 74 yX0_payOut, Cond.instanceMethod yX0_payOut, Cond.selects RX0 yX0_payOut yX0_payOut, Cond.code yX0_payOut cX0_payOut 2 none, Cond.methodLink RX3 146 yX0_tell, Cond.instanceMethod yX0_tell]
def wsX3_foresee_r4 : List Cond := [Cond.selects RX0 yX0_tell yX0_tell, Cond.code yX0_tell cX0_tell 2 (some .int), Cond.methodLink RX0 77 yX0_living, Cond.instanceMethod yX0_living, Cond.selects RX0 yX0_living yX0_living, Cond.code yX0_living cX0_living 3 (some .int), Cond.methodLink RX0 80 yX0_keptForAll, Cond.instanceMethod yX0_keptForAll, Cond.selects RX0 yX0_keptForAll yX0_keptForAll, Cond.code yX0_keptForAll cX0_keptForAll 4 (some .int), Cond.methodLink RX0 86 yX1_keptWith, Cond.instanceMethod yX1_keptWith, Cond.selects RX1 yX1_keptWith yX1_keptWith, Cond.code yX1_keptWith cX1_keptWith 3 (some .int), Cond.fieldLink RX1 44 "WidowPennies$Widow" "sum" "I", Cond.fieldLink RX1 48 "WidowPennies$Widow" "age" "I", Cond.fieldLink RX1 51 "WidowPennies$Widow" "wait" "I", Cond.methodLink RX1 38 yX2_lives, Cond.methodLink RX1 22 yX1_worthWith, Cond.instanceMethod yX1_worthWith, Cond.selects RX1 yX1_worthWith yX1_worthWith, Cond.code yX1_worthWith cX1_worthWith 8 (some .int), Cond.methodLink RX1 26 yX1_deathsAt, Cond.instanceMethod yX1_deathsAt]
def wsX3_foresee_r5 : List Cond := [Cond.selects RX1 yX1_deathsAt yX1_deathsAt, Cond.code yX1_deathsAt cX1_deathsAt 2 (some .int), Cond.fieldLink RX1 9 "WidowPennies$Tables" "deaths" "[I", Cond.static yX3_isAge, Cond.code yX3_isAge cX3_isAge 1 (some .boolean), Cond.methodLink RX0 83 yX0_sumsDue, Cond.instanceMethod yX0_sumsDue, Cond.selects RX0 yX0_sumsDue yX0_sumsDue, Cond.code yX0_sumsDue cX0_sumsDue 4 (some .int), Cond.fieldLink RX0 93 "WidowPennies$Widow" "wait" "I", Cond.fieldLink RX0 96 "WidowPennies$Widow" "sum" "I"]
def wsX3_foresee : List Cond := .code yX3_foresee cX3_foresee 3 (some .int) :: ((wsX3_foresee_r1 ++ (wsX3_foresee_r2 ++ (wsX3_foresee_r3 ++ (wsX3_foresee_r4 ++ wsX3_foresee_r5)))) ++ wsX30 ++ wsX00 ++ wsX20 ++ wsX10 ++ (vx_atS RX3 36 "java/lang/IndexOutOfBoundsException" ["java/lang/RuntimeException", "java/lang/Exception"]).filter goodWord ++ (vx_atS RX3 43 "java/lang/IllegalArgumentException" ["java/lang/RuntimeException", "java/lang/Exception"]).filter goodWord)
def wsX3_lasts_r1 : List Cond := [Cond.fieldLink RX3 25 "WidowPennies" "trial" "LWidowPennies$Book;", Cond.fieldLink RX3 21 "WidowPennies" "book" "LWidowPennies$Book;", Cond.fieldLink RX3 137 "WidowPennies$Book" "chest" "I", Cond.methodLink RX3 165 yX0_copy, Cond.instanceMethod yX0_copy, Cond.selects RX0 yX0_copy yX0_copy, Cond.initialized RX0, Cond.code yX0_copy cX0_copy 3 none, Cond.fieldLink RX0 22 "WidowPennies$Book" "written" "I", Cond.fieldLink RX0 41 "WidowPennies$Book" "chest" "I", Cond.fieldLink RX0 45 "WidowPennies$Book" "paidOut" "I", Cond.fieldLink RX0 34 "WidowPennies$Book" "prices" "I", Cond.fieldLink RX0 48 "WidowPennies$Book" "year" "I", Cond.fieldLink RX0 17 "WidowPennies$Book" "widows" "[LWidowPennies$Widow;", Cond.methodLink RX0 51 yX2_copy, Cond.instanceMethod yX2_copy, Cond.selects RX2 yX2_copy yX2_copy, Cond.initialized RX2, Cond.code yX2_copy cX2_copy 2 none, Cond.fieldLink RX2 22 "WidowPennies$Widow" "age" "I", Cond.fieldLink RX2 25 "WidowPennies$Widow" "sum" "I", Cond.fieldLink RX2 28 "WidowPennies$Widow" "wait" "I", Cond.fieldLink RX2 19 "WidowPennies$Widow" "held" "I", Cond.fieldLink RX2 9 "WidowPennies$Widow" "state" "I"]
def wsX3_lasts_r2 : List Cond := [Cond.fieldLink RX2 31 "WidowPennies$Widow" "got" "I", Cond.fieldLink RX2 34 "WidowPennies$Widow" "cost" "I", Cond.methodLink RX3 169 yX0_passYear, Cond.instanceMethod yX0_passYear, Cond.selects RX0 yX0_passYear yX0_passYear, Cond.code yX0_passYear cX0_passYear 3 none, Cond.fieldLink RX0 9 "WidowPennies$Book" "tables" "LWidowPennies$Tables;", Cond.constantLong RX0 64 (1000), Cond.methodLink RX0 58 yX1_rate, Cond.instanceMethod yX1_rate, Cond.selects RX1 yX1_rate yX1_rate, Cond.initialized RX1, Cond.code yX1_rate cX1_rate 2 (some .int), Cond.fieldLink RX1 15 "WidowPennies$Tables" "rates" "[I", Cond.methodLink RX0 37 yX0_takeIn, Cond.instanceMethod yX0_takeIn, Cond.selects RX0 yX0_takeIn yX0_takeIn, Cond.code yX0_takeIn cX0_takeIn 3 none, Cond.constant RX0 44 (99999999), Cond.methodLink RX0 26 yX0_widowAt, Cond.instanceMethod yX0_widowAt, Cond.selects RX0 yX0_widowAt yX0_widowAt, Cond.code yX0_widowAt cX0_widowAt 2 (some (.object "WidowPennies$Widow")), Cond.methodLink RX0 66 yX2_lives]
def wsX3_lasts_r3 : List Cond := [Cond.instanceMethod yX2_lives, Cond.selects RX2 yX2_lives yX2_lives, Cond.code yX2_lives cX2_lives 1 (some .boolean), Cond.methodLink RX0 70 yX2_liveYear, Cond.instanceMethod yX2_liveYear, Cond.selects RX2 yX2_liveYear yX2_liveYear, Cond.code yX2_liveYear cX2_liveYear 2 (some .int), Cond.methodLink RX0 74 yX0_payOut, Cond.instanceMethod yX0_payOut, Cond.selects RX0 yX0_payOut yX0_payOut, Cond.code yX0_payOut cX0_payOut 2 none]
def wsX3_lasts : List Cond := .code yX3_lasts cX3_lasts 2 (some .int) :: ((wsX3_lasts_r1 ++ (wsX3_lasts_r2 ++ wsX3_lasts_r3)) ++ wsX30 ++ wsX00 ++ wsX20 ++ wsX10)
def wsX3_even_r1 : List Cond := [Cond.fieldLink RX3 21 "WidowPennies" "book" "LWidowPennies$Book;", Cond.fieldLink RX3 137 "WidowPennies$Book" "chest" "I", Cond.methodLink RX3 172 yX0_keptForAll, Cond.instanceMethod yX0_keptForAll, Cond.selects RX0 yX0_keptForAll yX0_keptForAll, Cond.initialized RX0, Cond.code yX0_keptForAll cX0_keptForAll 4 (some .int), Cond.fieldLink RX0 22 "WidowPennies$Book" "written" "I", Cond.fieldLink RX0 9 "WidowPennies$Book" "tables" "LWidowPennies$Tables;", Cond.methodLink RX0 26 yX0_widowAt, Cond.instanceMethod yX0_widowAt, Cond.selects RX0 yX0_widowAt yX0_widowAt, Cond.code yX0_widowAt cX0_widowAt 2 (some (.object "WidowPennies$Widow")), Cond.fieldLink RX0 17 "WidowPennies$Book" "widows" "[LWidowPennies$Widow;", Cond.methodLink RX0 86 yX1_keptWith, Cond.instanceMethod yX1_keptWith, Cond.selects RX1 yX1_keptWith yX1_keptWith, Cond.initialized RX1, Cond.code yX1_keptWith cX1_keptWith 3 (some .int), Cond.fieldLink RX1 44 "WidowPennies$Widow" "sum" "I", Cond.fieldLink RX1 48 "WidowPennies$Widow" "age" "I", Cond.fieldLink RX1 51 "WidowPennies$Widow" "wait" "I", Cond.methodLink RX1 38 yX2_lives, Cond.instanceMethod yX2_lives]
def wsX3_even_r2 : List Cond := [Cond.selects RX2 yX2_lives yX2_lives, Cond.initialized RX2, Cond.code yX2_lives cX2_lives 1 (some .boolean), Cond.fieldLink RX2 9 "WidowPennies$Widow" "state" "I", Cond.methodLink RX1 22 yX1_worthWith, Cond.instanceMethod yX1_worthWith, Cond.selects RX1 yX1_worthWith yX1_worthWith, Cond.code yX1_worthWith cX1_worthWith 8 (some .int), Cond.methodLink RX1 26 yX1_deathsAt, Cond.instanceMethod yX1_deathsAt, Cond.selects RX1 yX1_deathsAt yX1_deathsAt, Cond.code yX1_deathsAt cX1_deathsAt 2 (some .int), Cond.fieldLink RX1 9 "WidowPennies$Tables" "deaths" "[I", Cond.static yX3_isAge, Cond.initialized RX3, Cond.code yX3_isAge cX3_isAge 1 (some .boolean)]
def wsX3_even : List Cond := .code yX3_even cX3_even 4 (some .int) :: ((wsX3_even_r1 ++ wsX3_even_r2) ++ wsX30 ++ wsX00 ++ wsX20 ++ wsX10)
def wsX3_affords_r1 : List Cond := [Cond.classLink RX3 39 "java/lang/IllegalArgumentException", Cond.initialized "java/lang/IllegalArgumentException", Cond.constant RX3 131 (99999), Cond.fieldLink RX3 12 "WidowPennies" "tables" "LWidowPennies$Tables;", Cond.methodLink RX3 62 yX3_checkAge, Cond.static yX3_checkAge, Cond.initialized RX3, Cond.code yX3_checkAge cX3_checkAge 1 none, Cond.methodLink RX3 28 yX3_isAge, Cond.static yX3_isAge, Cond.code yX3_isAge cX3_isAge 1 (some .boolean), Cond.methodLink RX3 69 yX3_checkPutOff, Cond.static yX3_checkPutOff, Cond.code yX3_checkPutOff cX3_checkPutOff 1 none, Cond.methodLink RX3 81 yX1_worthNow, Cond.instanceMethod yX1_worthNow, Cond.selects RX1 yX1_worthNow yX1_worthNow, Cond.initialized RX1, Cond.code yX1_worthNow cX1_worthNow 3 (some .int), Cond.fieldLink RX1 15 "WidowPennies$Tables" "rates" "[I", Cond.methodLink RX1 22 yX1_worthWith, Cond.instanceMethod yX1_worthWith, Cond.selects RX1 yX1_worthWith yX1_worthWith, Cond.code yX1_worthWith cX1_worthWith 8 (some .int)]
def wsX3_affords_r2 : List Cond := [Cond.methodLink RX1 26 yX1_deathsAt, Cond.instanceMethod yX1_deathsAt, Cond.selects RX1 yX1_deathsAt yX1_deathsAt, Cond.code yX1_deathsAt cX1_deathsAt 2 (some .int), Cond.fieldLink RX1 9 "WidowPennies$Tables" "deaths" "[I", Cond.methodLink RX3 177 yX1_greatestSum, Cond.instanceMethod yX1_greatestSum, Cond.selects RX1 yX1_greatestSum yX1_greatestSum, Cond.code yX1_greatestSum cX1_greatestSum 6 (some .int), Cond.methodLink RX1 30 yX1_priceOf, Cond.instanceMethod yX1_priceOf, Cond.selects RX1 yX1_priceOf yX1_priceOf, Cond.code yX1_priceOf cX1_priceOf 5 (some .int)]
def wsX3_affords : List Cond := .code yX3_affords cX3_affords 5 (some .int) :: ((wsX3_affords_r1 ++ wsX3_affords_r2) ++ wsX30 ++ wsX10 ++ (vx_atS RX3 43 "java/lang/IllegalArgumentException" ["java/lang/RuntimeException", "java/lang/Exception"]).filter goodWord)
def wsX3_mean : List Cond := .code yX3_mean cX3_mean 2 (some .double) :: ([.fieldLink RX3 21 "WidowPennies" "book" "LWidowPennies$Book;", .methodLink RX3 180 yX0_living, .instanceMethod yX0_living, .selects RX0 yX0_living yX0_living, .initialized RX0, .code yX0_living cX0_living 3 (some .int), .fieldLink RX0 22 "WidowPennies$Book" "written" "I", .methodLink RX0 26 yX0_widowAt, .instanceMethod yX0_widowAt, .selects RX0 yX0_widowAt yX0_widowAt, .code yX0_widowAt cX0_widowAt 2 (some (.object "WidowPennies$Widow")), .fieldLink RX0 17 "WidowPennies$Book" "widows" "[LWidowPennies$Widow;", .methodLink RX0 66 yX2_lives, .instanceMethod yX2_lives, .selects RX2 yX2_lives yX2_lives, .initialized RX2, .code yX2_lives cX2_lives 1 (some .boolean), .fieldLink RX2 9 "WidowPennies$Widow" "state" "I", .methodLink RX3 184 yX0_agesOfLiving, .instanceMethod yX0_agesOfLiving, .selects RX0 yX0_agesOfLiving yX0_agesOfLiving, .code yX0_agesOfLiving cX0_agesOfLiving 4 (some .int), .fieldLink RX0 90 "WidowPennies$Widow" "age" "I"] ++ wsX30 ++ wsX00 ++ wsX20)
def wsX3_digest_r1 : List Cond := [Cond.constantLong RX3 187 (1667), Cond.constantLong RX3 189 (31), Cond.fieldLink RX3 21 "WidowPennies" "book" "LWidowPennies$Book;", Cond.fieldLink RX3 12 "WidowPennies" "tables" "LWidowPennies$Tables;", Cond.fieldLink RX3 191 "WidowPennies$Book" "written" "I", Cond.methodLink RX3 146 yX0_tell, Cond.instanceMethod yX0_tell, Cond.selects RX0 yX0_tell yX0_tell, Cond.initialized RX0, Cond.code yX0_tell cX0_tell 2 (some .int), Cond.fieldLink RX0 48 "WidowPennies$Book" "year" "I", Cond.fieldLink RX0 22 "WidowPennies$Book" "written" "I", Cond.fieldLink RX0 41 "WidowPennies$Book" "chest" "I", Cond.fieldLink RX0 9 "WidowPennies$Book" "tables" "LWidowPennies$Tables;", Cond.fieldLink RX0 45 "WidowPennies$Book" "paidOut" "I", Cond.fieldLink RX0 34 "WidowPennies$Book" "prices" "I", Cond.methodLink RX0 77 yX0_living, Cond.instanceMethod yX0_living, Cond.selects RX0 yX0_living yX0_living, Cond.code yX0_living cX0_living 3 (some .int), Cond.methodLink RX0 26 yX0_widowAt, Cond.instanceMethod yX0_widowAt, Cond.selects RX0 yX0_widowAt yX0_widowAt, Cond.code yX0_widowAt cX0_widowAt 2 (some (.object "WidowPennies$Widow"))]
def wsX3_digest_r2 : List Cond := [Cond.fieldLink RX0 17 "WidowPennies$Book" "widows" "[LWidowPennies$Widow;", Cond.methodLink RX0 66 yX2_lives, Cond.instanceMethod yX2_lives, Cond.selects RX2 yX2_lives yX2_lives, Cond.initialized RX2, Cond.code yX2_lives cX2_lives 1 (some .boolean), Cond.fieldLink RX2 9 "WidowPennies$Widow" "state" "I", Cond.methodLink RX0 58 yX1_rate, Cond.instanceMethod yX1_rate, Cond.selects RX1 yX1_rate yX1_rate, Cond.initialized RX1, Cond.code yX1_rate cX1_rate 2 (some .int), Cond.fieldLink RX1 15 "WidowPennies$Tables" "rates" "[I", Cond.methodLink RX0 80 yX0_keptForAll, Cond.instanceMethod yX0_keptForAll, Cond.selects RX0 yX0_keptForAll yX0_keptForAll, Cond.code yX0_keptForAll cX0_keptForAll 4 (some .int), Cond.methodLink RX0 86 yX1_keptWith, Cond.instanceMethod yX1_keptWith, Cond.selects RX1 yX1_keptWith yX1_keptWith, Cond.code yX1_keptWith cX1_keptWith 3 (some .int), Cond.fieldLink RX1 44 "WidowPennies$Widow" "sum" "I", Cond.fieldLink RX1 48 "WidowPennies$Widow" "age" "I", Cond.fieldLink RX1 51 "WidowPennies$Widow" "wait" "I"]
def wsX3_digest_r3 : List Cond := [Cond.methodLink RX1 38 yX2_lives, Cond.methodLink RX1 22 yX1_worthWith, Cond.instanceMethod yX1_worthWith, Cond.selects RX1 yX1_worthWith yX1_worthWith, Cond.code yX1_worthWith cX1_worthWith 8 (some .int), Cond.methodLink RX1 26 yX1_deathsAt, Cond.instanceMethod yX1_deathsAt, Cond.selects RX1 yX1_deathsAt yX1_deathsAt, Cond.code yX1_deathsAt cX1_deathsAt 2 (some .int), Cond.fieldLink RX1 9 "WidowPennies$Tables" "deaths" "[I", Cond.static yX3_isAge, Cond.initialized RX3, Cond.code yX3_isAge cX3_isAge 1 (some .boolean), Cond.methodLink RX0 83 yX0_sumsDue, Cond.instanceMethod yX0_sumsDue, Cond.selects RX0 yX0_sumsDue yX0_sumsDue, Cond.code yX0_sumsDue cX0_sumsDue 4 (some .int), Cond.fieldLink RX0 93 "WidowPennies$Widow" "wait" "I", Cond.fieldLink RX0 96 "WidowPennies$Widow" "sum" "I", Cond.methodLink RX3 56 yX1_rate, Cond.methodLink RX3 44 yX1_deathsAt, Cond.methodLink RX3 97 yX0_widowAt, Cond.methodLink RX3 142 yX1_tellOf, Cond.instanceMethod yX1_tellOf]
def wsX3_digest_r4 : List Cond := [Cond.selects RX1 yX1_tellOf yX1_tellOf, Cond.code yX1_tellOf cX1_tellOf 3 (some .int), Cond.fieldLink RX1 61 "WidowPennies$Widow" "held" "I", Cond.fieldLink RX1 64 "WidowPennies$Widow" "state" "I", Cond.fieldLink RX1 67 "WidowPennies$Widow" "got" "I", Cond.fieldLink RX1 70 "WidowPennies$Widow" "cost" "I", Cond.methodLink RX1 57 yX1_keptNow, Cond.instanceMethod yX1_keptNow, Cond.selects RX1 yX1_keptNow yX1_keptNow, Cond.code yX1_keptNow cX1_keptNow 2 (some .int), Cond.methodLink RX1 34 yX1_keptWith, Cond.methodLink RX1 73 yX1_givenBack, Cond.instanceMethod yX1_givenBack, Cond.selects RX1 yX1_givenBack yX1_givenBack, Cond.code yX1_givenBack cX1_givenBack 3 (some .int), Cond.methodLink RX1 54 yX2_canGiveUp, Cond.instanceMethod yX2_canGiveUp, Cond.selects RX2 yX2_canGiveUp yX2_canGiveUp, Cond.code yX2_canGiveUp cX2_canGiveUp 1 (some .boolean), Cond.fieldLink RX2 19 "WidowPennies$Widow" "held" "I", Cond.methodLink RX2 15 yX2_lives]
def wsX3_digest : List Cond := .code yX3_digest cX3_digest 5 (some .long) :: ((wsX3_digest_r1 ++ (wsX3_digest_r2 ++ (wsX3_digest_r3 ++ wsX3_digest_r4))) ++ wsX30 ++ wsX00 ++ wsX20 ++ wsX10)
def wsX4_reckon : List Cond := .code yX4_reckon cX4_reckon 4 none :: ([.fieldLink RX4 22 "WidowPenniesModel" "worths" "[I", .fieldLink RX4 13 "WidowPenniesModel" "deaths" "[I", .fieldLink RX4 7 "WidowPenniesModel" "rates" "[I"] ++ wsX40)
def wsX4_init : List Cond := .code yX4_init cX4_init 2 none :: ([.methodLink RX4 1 objectInit, .instanceMethod objectInit, .code objectInit ⟨#[0xb1]⟩ 1 none, .arrayClass .int, .fieldLink RX4 7 "WidowPenniesModel" "rates" "[I", .fieldLink RX4 13 "WidowPenniesModel" "deaths" "[I", .fieldLink RX4 16 "WidowPenniesModel" "rows" "[I", .fieldLink RX4 19 "WidowPenniesModel" "numbers" "[I", .fieldLink RX4 22 "WidowPenniesModel" "worths" "[I", .methodLink RX4 25 yX4_reckon, .instanceMethod yX4_reckon, .selects RX4 yX4_reckon yX4_reckon, .initialized RX4, .code yX4_reckon cX4_reckon 4 none] ++ wsX40)
def wsX4_thrown : List Cond := .code yX4_thrown cX4_thrown 1 (some .int) :: ([.fieldLink RX4 28 "WidowPenniesModel" "thrown" "I"] ++ wsX40)
def wsX4_fail : List Cond := .code yX4_fail cX4_fail 2 (some .int) :: ([.fieldLink RX4 28 "WidowPenniesModel" "thrown" "I"] ++ wsX40)
def wsX4_isIn : List Cond := .code yX4_isIn cX4_isIn 3 (some .boolean) :: ([])
def wsX4_isAge : List Cond := .code yX4_isAge cX4_isAge 1 (some .boolean) :: ([.methodLink RX4 32 yX4_isIn, .static yX4_isIn, .initialized RX4, .code yX4_isIn cX4_isIn 3 (some .boolean)])
def wsX4_isLate : List Cond := .code yX4_isLate cX4_isLate 1 (some .boolean) :: ([.methodLink RX4 32 yX4_isIn, .static yX4_isIn, .initialized RX4, .code yX4_isIn cX4_isIn 3 (some .boolean)])
def wsX4_isSum : List Cond := .code yX4_isSum cX4_isSum 1 (some .boolean) :: ([.methodLink RX4 32 yX4_isIn, .static yX4_isIn, .initialized RX4, .code yX4_isIn cX4_isIn 3 (some .boolean)])
def wsX4_isWidow : List Cond := .code yX4_isWidow cX4_isWidow 2 (some .boolean) :: ([.fieldLink RX4 36 "WidowPenniesModel" "widows" "I", .methodLink RX4 32 yX4_isIn, .static yX4_isIn, .initialized RX4, .code yX4_isIn cX4_isIn 3 (some .boolean)] ++ wsX40)
def wsX4_wi : List Cond := .code yX4_wi cX4_wi 3 (some .int) :: ([.fieldLink RX4 16 "WidowPenniesModel" "rows" "[I"] ++ wsX40)
def wsX4_let : List Cond := .code yX4_let cX4_let 4 none :: ([.fieldLink RX4 16 "WidowPenniesModel" "rows" "[I"] ++ wsX40)
def wsX4_isAlive : List Cond := .code yX4_isAlive cX4_isAlive 2 (some .boolean) :: ([.methodLink RX4 39 yX4_wi, .instanceMethod yX4_wi, .selects RX4 yX4_wi yX4_wi, .initialized RX4, .code yX4_wi cX4_wi 3 (some .int), .fieldLink RX4 16 "WidowPenniesModel" "rows" "[I"] ++ wsX40)
def wsX4_worthOf : List Cond := .code yX4_worthOf cX4_worthOf 3 (some .int) :: ([.fieldLink RX4 22 "WidowPenniesModel" "worths" "[I"] ++ wsX40)
def wsX4_priceOf : List Cond := .code yX4_priceOf cX4_priceOf 5 (some .int) :: ([.fieldLink RX4 7 "WidowPenniesModel" "rates" "[I", .methodLink RX4 46 Lib.Math.max.name, .static Lib.Math.max.name, .initialized "java/lang/Math", .code Lib.Math.max.name Lib.Math.max.code 2 (some .int), .methodLink RX4 43 yX4_worthOf, .instanceMethod yX4_worthOf, .selects RX4 yX4_worthOf yX4_worthOf, .initialized RX4, .code yX4_worthOf cX4_worthOf 3 (some .int), .fieldLink RX4 22 "WidowPenniesModel" "worths" "[I"] ++ wsX40)
def wsX4_kept : List Cond := .code yX4_kept cX4_kept 2 (some .int) :: ([.methodLink RX4 51 yX4_isAlive, .instanceMethod yX4_isAlive, .selects RX4 yX4_isAlive yX4_isAlive, .initialized RX4, .code yX4_isAlive cX4_isAlive 2 (some .boolean), .methodLink RX4 39 yX4_wi, .instanceMethod yX4_wi, .selects RX4 yX4_wi yX4_wi, .code yX4_wi cX4_wi 3 (some .int), .fieldLink RX4 16 "WidowPenniesModel" "rows" "[I", .methodLink RX4 43 yX4_worthOf, .instanceMethod yX4_worthOf, .selects RX4 yX4_worthOf yX4_worthOf, .code yX4_worthOf cX4_worthOf 3 (some .int), .fieldLink RX4 22 "WidowPenniesModel" "worths" "[I"] ++ wsX40)
def wsX4_keptForAll : List Cond := .code yX4_keptForAll cX4_keptForAll 3 (some .int) :: ([.fieldLink RX4 36 "WidowPenniesModel" "widows" "I", .methodLink RX4 55 yX4_kept, .instanceMethod yX4_kept, .selects RX4 yX4_kept yX4_kept, .initialized RX4, .code yX4_kept cX4_kept 2 (some .int), .methodLink RX4 51 yX4_isAlive, .instanceMethod yX4_isAlive, .selects RX4 yX4_isAlive yX4_isAlive, .code yX4_isAlive cX4_isAlive 2 (some .boolean), .methodLink RX4 39 yX4_wi, .instanceMethod yX4_wi, .selects RX4 yX4_wi yX4_wi, .code yX4_wi cX4_wi 3 (some .int), .fieldLink RX4 16 "WidowPenniesModel" "rows" "[I", .methodLink RX4 43 yX4_worthOf, .instanceMethod yX4_worthOf, .selects RX4 yX4_worthOf yX4_worthOf, .code yX4_worthOf cX4_worthOf 3 (some .int), .fieldLink RX4 22 "WidowPenniesModel" "worths" "[I"] ++ wsX40)
def wsX4_back : List Cond := .code yX4_back cX4_back 2 (some .int) :: ([.fieldLink RX4 7 "WidowPenniesModel" "rates" "[I", .methodLink RX4 51 yX4_isAlive, .instanceMethod yX4_isAlive, .selects RX4 yX4_isAlive yX4_isAlive, .initialized RX4, .code yX4_isAlive cX4_isAlive 2 (some .boolean), .methodLink RX4 39 yX4_wi, .instanceMethod yX4_wi, .selects RX4 yX4_wi yX4_wi, .code yX4_wi cX4_wi 3 (some .int), .fieldLink RX4 16 "WidowPenniesModel" "rows" "[I", .methodLink RX4 55 yX4_kept, .instanceMethod yX4_kept, .selects RX4 yX4_kept yX4_kept, .code yX4_kept cX4_kept 2 (some .int), .methodLink RX4 43 yX4_worthOf, .instanceMethod yX4_worthOf, .selects RX4 yX4_worthOf yX4_worthOf, .code yX4_worthOf cX4_worthOf 3 (some .int), .fieldLink RX4 22 "WidowPenniesModel" "worths" "[I"] ++ wsX40)
def wsX4_comeIn : List Cond := .code yX4_comeIn cX4_comeIn 3 none :: ([.fieldLink RX4 19 "WidowPenniesModel" "numbers" "[I", .constantLong RX4 59 (99999999), .methodLink RX4 61 Lib.MathLoose.min_long.x, .static Lib.MathLoose.min_long.x, .initialized "java/lang/Math", .code Lib.MathLoose.min_long.x Lib.MathLoose.min_long.code 4 (some .long)] ++ wsX40)
def wsX4_payOut : List Cond := .code yX4_payOut cX4_payOut 3 none :: ([.fieldLink RX4 19 "WidowPenniesModel" "numbers" "[I", .methodLink RX4 39 yX4_wi, .instanceMethod yX4_wi, .selects RX4 yX4_wi yX4_wi, .initialized RX4, .code yX4_wi cX4_wi 3 (some .int), .fieldLink RX4 16 "WidowPenniesModel" "rows" "[I", .methodLink RX4 65 yX4_let, .instanceMethod yX4_let, .selects RX4 yX4_let yX4_let, .code yX4_let cX4_let 4 none] ++ wsX40)
def wsX4_setDeaths : List Cond := .code yX4_setDeaths cX4_setDeaths 4 (some .int) :: ([.fieldLink RX4 28 "WidowPenniesModel" "thrown" "I", .fieldLink RX4 13 "WidowPenniesModel" "deaths" "[I", .methodLink RX4 69 yX4_isAge, .static yX4_isAge, .initialized RX4, .code yX4_isAge cX4_isAge 1 (some .boolean), .methodLink RX4 32 yX4_isIn, .static yX4_isIn, .code yX4_isIn cX4_isIn 3 (some .boolean), .methodLink RX4 72 yX4_fail, .instanceMethod yX4_fail, .selects RX4 yX4_fail yX4_fail, .code yX4_fail cX4_fail 2 (some .int), .methodLink RX4 25 yX4_reckon, .instanceMethod yX4_reckon, .selects RX4 yX4_reckon yX4_reckon, .code yX4_reckon cX4_reckon 4 none, .fieldLink RX4 22 "WidowPenniesModel" "worths" "[I", .fieldLink RX4 7 "WidowPenniesModel" "rates" "[I"] ++ wsX40)
def wsX4_setRate : List Cond := .code yX4_setRate cX4_setRate 4 (some .int) :: ([.fieldLink RX4 28 "WidowPenniesModel" "thrown" "I", .fieldLink RX4 75 "WidowPenniesModel" "HIGH" "[I", .fieldLink RX4 7 "WidowPenniesModel" "rates" "[I", .methodLink RX4 32 yX4_isIn, .static yX4_isIn, .initialized RX4, .code yX4_isIn cX4_isIn 3 (some .boolean), .methodLink RX4 72 yX4_fail, .instanceMethod yX4_fail, .selects RX4 yX4_fail yX4_fail, .code yX4_fail cX4_fail 2 (some .int), .methodLink RX4 25 yX4_reckon, .instanceMethod yX4_reckon, .selects RX4 yX4_reckon yX4_reckon, .code yX4_reckon cX4_reckon 4 none, .fieldLink RX4 22 "WidowPenniesModel" "worths" "[I", .fieldLink RX4 13 "WidowPenniesModel" "deaths" "[I"] ++ wsX40)
def wsX4_isBought : List Cond := .code yX4_isBought cX4_isBought 3 (some .boolean) :: ([.methodLink RX4 69 yX4_isAge, .static yX4_isAge, .initialized RX4, .code yX4_isAge cX4_isAge 1 (some .boolean), .methodLink RX4 32 yX4_isIn, .static yX4_isIn, .code yX4_isIn cX4_isIn 3 (some .boolean), .methodLink RX4 78 yX4_isSum, .static yX4_isSum, .code yX4_isSum cX4_isSum 1 (some .boolean), .methodLink RX4 81 yX4_isLate, .static yX4_isLate, .code yX4_isLate cX4_isLate 1 (some .boolean)])
def wsX4_buy_r1 : List Cond := [Cond.fieldLink RX4 28 "WidowPenniesModel" "thrown" "I", Cond.fieldLink RX4 36 "WidowPenniesModel" "widows" "I", Cond.arrayClass .int, Cond.fieldLink RX4 16 "WidowPenniesModel" "rows" "[I", Cond.methodLink RX4 91 arraycopyName, Cond.native arraycopyName, Cond.static arraycopyName, Cond.initialized "java/lang/System", Cond.methodLink RX4 84 yX4_isBought, Cond.static yX4_isBought, Cond.initialized RX4, Cond.code yX4_isBought cX4_isBought 3 (some .boolean), Cond.methodLink RX4 69 yX4_isAge, Cond.static yX4_isAge, Cond.code yX4_isAge cX4_isAge 1 (some .boolean), Cond.methodLink RX4 32 yX4_isIn, Cond.static yX4_isIn, Cond.code yX4_isIn cX4_isIn 3 (some .boolean), Cond.methodLink RX4 78 yX4_isSum, Cond.static yX4_isSum, Cond.code yX4_isSum cX4_isSum 1 (some .boolean), Cond.methodLink RX4 81 yX4_isLate, Cond.static yX4_isLate, Cond.code yX4_isLate cX4_isLate 1 (some .boolean)]
def wsX4_buy_r2 : List Cond := [Cond.methodLink RX4 72 yX4_fail, Cond.instanceMethod yX4_fail, Cond.selects RX4 yX4_fail yX4_fail, Cond.code yX4_fail cX4_fail 2 (some .int), Cond.methodLink RX4 43 yX4_worthOf, Cond.instanceMethod yX4_worthOf, Cond.selects RX4 yX4_worthOf yX4_worthOf, Cond.code yX4_worthOf cX4_worthOf 3 (some .int), Cond.fieldLink RX4 22 "WidowPenniesModel" "worths" "[I", Cond.methodLink RX4 87 yX4_priceOf, Cond.instanceMethod yX4_priceOf, Cond.selects RX4 yX4_priceOf yX4_priceOf, Cond.code yX4_priceOf cX4_priceOf 5 (some .int), Cond.fieldLink RX4 7 "WidowPenniesModel" "rates" "[I", Cond.methodLink RX4 46 Lib.Math.max.name, Cond.static Lib.Math.max.name, Cond.initialized "java/lang/Math", Cond.code Lib.Math.max.name Lib.Math.max.code 2 (some .int), Cond.methodLink RX4 97 yX4_comeIn, Cond.instanceMethod yX4_comeIn, Cond.selects RX4 yX4_comeIn yX4_comeIn, Cond.code yX4_comeIn cX4_comeIn 3 none, Cond.fieldLink RX4 19 "WidowPenniesModel" "numbers" "[I", Cond.constantLong RX4 59 (99999999)]
def wsX4_buy_r3 : List Cond := [Cond.methodLink RX4 61 Lib.MathLoose.min_long.x, Cond.static Lib.MathLoose.min_long.x, Cond.code Lib.MathLoose.min_long.x Lib.MathLoose.min_long.code 4 (some .long)]
def wsX4_buy : List Cond := .code yX4_buy cX4_buy 6 (some .int) :: ((wsX4_buy_r1 ++ (wsX4_buy_r2 ++ wsX4_buy_r3)) ++ wsX40)
def wsX4_die_r1 : List Cond := [Cond.fieldLink RX4 28 "WidowPenniesModel" "thrown" "I", Cond.methodLink RX4 101 yX4_isWidow, Cond.instanceMethod yX4_isWidow, Cond.selects RX4 yX4_isWidow yX4_isWidow, Cond.initialized RX4, Cond.code yX4_isWidow cX4_isWidow 2 (some .boolean), Cond.fieldLink RX4 36 "WidowPenniesModel" "widows" "I", Cond.methodLink RX4 32 yX4_isIn, Cond.static yX4_isIn, Cond.code yX4_isIn cX4_isIn 3 (some .boolean), Cond.methodLink RX4 72 yX4_fail, Cond.instanceMethod yX4_fail, Cond.selects RX4 yX4_fail yX4_fail, Cond.code yX4_fail cX4_fail 2 (some .int), Cond.methodLink RX4 51 yX4_isAlive, Cond.instanceMethod yX4_isAlive, Cond.selects RX4 yX4_isAlive yX4_isAlive, Cond.code yX4_isAlive cX4_isAlive 2 (some .boolean), Cond.methodLink RX4 39 yX4_wi, Cond.instanceMethod yX4_wi, Cond.selects RX4 yX4_wi yX4_wi, Cond.code yX4_wi cX4_wi 3 (some .int), Cond.fieldLink RX4 16 "WidowPenniesModel" "rows" "[I", Cond.methodLink RX4 55 yX4_kept]
def wsX4_die_r2 : List Cond := [Cond.instanceMethod yX4_kept, Cond.selects RX4 yX4_kept yX4_kept, Cond.code yX4_kept cX4_kept 2 (some .int), Cond.methodLink RX4 43 yX4_worthOf, Cond.instanceMethod yX4_worthOf, Cond.selects RX4 yX4_worthOf yX4_worthOf, Cond.code yX4_worthOf cX4_worthOf 3 (some .int), Cond.fieldLink RX4 22 "WidowPenniesModel" "worths" "[I", Cond.methodLink RX4 65 yX4_let, Cond.instanceMethod yX4_let, Cond.selects RX4 yX4_let yX4_let, Cond.code yX4_let cX4_let 4 none]
def wsX4_die : List Cond := .code yX4_die cX4_die 3 (some .int) :: ((wsX4_die_r1 ++ wsX4_die_r2) ++ wsX40)
def wsX4_giveUp_r1 : List Cond := [Cond.fieldLink RX4 28 "WidowPenniesModel" "thrown" "I", Cond.methodLink RX4 101 yX4_isWidow, Cond.instanceMethod yX4_isWidow, Cond.selects RX4 yX4_isWidow yX4_isWidow, Cond.initialized RX4, Cond.code yX4_isWidow cX4_isWidow 2 (some .boolean), Cond.fieldLink RX4 36 "WidowPenniesModel" "widows" "I", Cond.methodLink RX4 32 yX4_isIn, Cond.static yX4_isIn, Cond.code yX4_isIn cX4_isIn 3 (some .boolean), Cond.methodLink RX4 72 yX4_fail, Cond.instanceMethod yX4_fail, Cond.selects RX4 yX4_fail yX4_fail, Cond.code yX4_fail cX4_fail 2 (some .int), Cond.methodLink RX4 51 yX4_isAlive, Cond.instanceMethod yX4_isAlive, Cond.selects RX4 yX4_isAlive yX4_isAlive, Cond.code yX4_isAlive cX4_isAlive 2 (some .boolean), Cond.methodLink RX4 39 yX4_wi, Cond.instanceMethod yX4_wi, Cond.selects RX4 yX4_wi yX4_wi, Cond.code yX4_wi cX4_wi 3 (some .int), Cond.fieldLink RX4 16 "WidowPenniesModel" "rows" "[I", Cond.methodLink RX4 104 yX4_back]
def wsX4_giveUp_r2 : List Cond := [Cond.instanceMethod yX4_back, Cond.selects RX4 yX4_back yX4_back, Cond.code yX4_back cX4_back 2 (some .int), Cond.fieldLink RX4 7 "WidowPenniesModel" "rates" "[I", Cond.methodLink RX4 55 yX4_kept, Cond.instanceMethod yX4_kept, Cond.selects RX4 yX4_kept yX4_kept, Cond.code yX4_kept cX4_kept 2 (some .int), Cond.methodLink RX4 43 yX4_worthOf, Cond.instanceMethod yX4_worthOf, Cond.selects RX4 yX4_worthOf yX4_worthOf, Cond.code yX4_worthOf cX4_worthOf 3 (some .int), Cond.fieldLink RX4 22 "WidowPenniesModel" "worths" "[I", Cond.methodLink RX4 107 yX4_payOut, Cond.instanceMethod yX4_payOut, Cond.selects RX4 yX4_payOut yX4_payOut, Cond.code yX4_payOut cX4_payOut 3 none, Cond.fieldLink RX4 19 "WidowPenniesModel" "numbers" "[I", Cond.methodLink RX4 65 yX4_let, Cond.instanceMethod yX4_let, Cond.selects RX4 yX4_let yX4_let, Cond.code yX4_let cX4_let 4 none]
def wsX4_giveUp : List Cond := .code yX4_giveUp cX4_giveUp 3 (some .int) :: ((wsX4_giveUp_r1 ++ wsX4_giveUp_r2) ++ wsX40)
def wsX4_put : List Cond := .code yX4_put cX4_put 2 (some .int) :: ([.fieldLink RX4 28 "WidowPenniesModel" "thrown" "I", .constant RX4 111 (-99999), .constant RX4 112 (99999), .fieldLink RX4 19 "WidowPenniesModel" "numbers" "[I", .methodLink RX4 32 yX4_isIn, .static yX4_isIn, .initialized RX4, .code yX4_isIn cX4_isIn 3 (some .boolean), .methodLink RX4 72 yX4_fail, .instanceMethod yX4_fail, .selects RX4 yX4_fail yX4_fail, .code yX4_fail cX4_fail 2 (some .int), .methodLink RX4 97 yX4_comeIn, .instanceMethod yX4_comeIn, .selects RX4 yX4_comeIn yX4_comeIn, .code yX4_comeIn cX4_comeIn 3 none, .constantLong RX4 59 (99999999), .methodLink RX4 61 Lib.MathLoose.min_long.x, .static Lib.MathLoose.min_long.x, .initialized "java/lang/Math", .code Lib.MathLoose.min_long.x Lib.MathLoose.min_long.code 4 (some .long)] ++ wsX40)
def wsX4_worth : List Cond := .code yX4_worth cX4_worth 3 (some .int) :: ([.fieldLink RX4 28 "WidowPenniesModel" "thrown" "I", .methodLink RX4 69 yX4_isAge, .static yX4_isAge, .initialized RX4, .code yX4_isAge cX4_isAge 1 (some .boolean), .methodLink RX4 32 yX4_isIn, .static yX4_isIn, .code yX4_isIn cX4_isIn 3 (some .boolean), .methodLink RX4 81 yX4_isLate, .static yX4_isLate, .code yX4_isLate cX4_isLate 1 (some .boolean), .methodLink RX4 43 yX4_worthOf, .instanceMethod yX4_worthOf, .selects RX4 yX4_worthOf yX4_worthOf, .code yX4_worthOf cX4_worthOf 3 (some .int), .fieldLink RX4 22 "WidowPenniesModel" "worths" "[I", .methodLink RX4 72 yX4_fail, .instanceMethod yX4_fail, .selects RX4 yX4_fail yX4_fail, .code yX4_fail cX4_fail 2 (some .int)] ++ wsX40)
def wsX4_price_r1 : List Cond := [Cond.fieldLink RX4 28 "WidowPenniesModel" "thrown" "I", Cond.methodLink RX4 84 yX4_isBought, Cond.static yX4_isBought, Cond.initialized RX4, Cond.code yX4_isBought cX4_isBought 3 (some .boolean), Cond.methodLink RX4 69 yX4_isAge, Cond.static yX4_isAge, Cond.code yX4_isAge cX4_isAge 1 (some .boolean), Cond.methodLink RX4 32 yX4_isIn, Cond.static yX4_isIn, Cond.code yX4_isIn cX4_isIn 3 (some .boolean), Cond.methodLink RX4 78 yX4_isSum, Cond.static yX4_isSum, Cond.code yX4_isSum cX4_isSum 1 (some .boolean), Cond.methodLink RX4 81 yX4_isLate, Cond.static yX4_isLate, Cond.code yX4_isLate cX4_isLate 1 (some .boolean), Cond.methodLink RX4 87 yX4_priceOf, Cond.instanceMethod yX4_priceOf, Cond.selects RX4 yX4_priceOf yX4_priceOf, Cond.code yX4_priceOf cX4_priceOf 5 (some .int), Cond.fieldLink RX4 7 "WidowPenniesModel" "rates" "[I", Cond.methodLink RX4 46 Lib.Math.max.name, Cond.static Lib.Math.max.name]
def wsX4_price_r2 : List Cond := [Cond.initialized "java/lang/Math", Cond.code Lib.Math.max.name Lib.Math.max.code 2 (some .int), Cond.methodLink RX4 43 yX4_worthOf, Cond.instanceMethod yX4_worthOf, Cond.selects RX4 yX4_worthOf yX4_worthOf, Cond.code yX4_worthOf cX4_worthOf 3 (some .int), Cond.fieldLink RX4 22 "WidowPenniesModel" "worths" "[I", Cond.methodLink RX4 72 yX4_fail, Cond.instanceMethod yX4_fail, Cond.selects RX4 yX4_fail yX4_fail, Cond.code yX4_fail cX4_fail 2 (some .int)]
def wsX4_price : List Cond := .code yX4_price cX4_price 4 (some .int) :: ((wsX4_price_r1 ++ wsX4_price_r2) ++ wsX40)
def wsX4_widowTold : List Cond := .code yX4_widowTold cX4_widowTold 3 (some .int) :: ([.methodLink RX4 55 yX4_kept, .instanceMethod yX4_kept, .selects RX4 yX4_kept yX4_kept, .initialized RX4, .code yX4_kept cX4_kept 2 (some .int), .methodLink RX4 51 yX4_isAlive, .instanceMethod yX4_isAlive, .selects RX4 yX4_isAlive yX4_isAlive, .code yX4_isAlive cX4_isAlive 2 (some .boolean), .methodLink RX4 39 yX4_wi, .instanceMethod yX4_wi, .selects RX4 yX4_wi yX4_wi, .code yX4_wi cX4_wi 3 (some .int), .fieldLink RX4 16 "WidowPenniesModel" "rows" "[I", .methodLink RX4 43 yX4_worthOf, .instanceMethod yX4_worthOf, .selects RX4 yX4_worthOf yX4_worthOf, .code yX4_worthOf cX4_worthOf 3 (some .int), .fieldLink RX4 22 "WidowPenniesModel" "worths" "[I", .methodLink RX4 104 yX4_back, .instanceMethod yX4_back, .selects RX4 yX4_back yX4_back, .code yX4_back cX4_back 2 (some .int), .fieldLink RX4 7 "WidowPenniesModel" "rates" "[I"] ++ wsX40)
def wsX4_told_r1 : List Cond := [Cond.fieldLink RX4 28 "WidowPenniesModel" "thrown" "I", Cond.methodLink RX4 101 yX4_isWidow, Cond.instanceMethod yX4_isWidow, Cond.selects RX4 yX4_isWidow yX4_isWidow, Cond.initialized RX4, Cond.code yX4_isWidow cX4_isWidow 2 (some .boolean), Cond.fieldLink RX4 36 "WidowPenniesModel" "widows" "I", Cond.methodLink RX4 32 yX4_isIn, Cond.static yX4_isIn, Cond.code yX4_isIn cX4_isIn 3 (some .boolean), Cond.methodLink RX4 113 yX4_widowTold, Cond.instanceMethod yX4_widowTold, Cond.selects RX4 yX4_widowTold yX4_widowTold, Cond.code yX4_widowTold cX4_widowTold 3 (some .int), Cond.methodLink RX4 55 yX4_kept, Cond.instanceMethod yX4_kept, Cond.selects RX4 yX4_kept yX4_kept, Cond.code yX4_kept cX4_kept 2 (some .int), Cond.methodLink RX4 51 yX4_isAlive, Cond.instanceMethod yX4_isAlive, Cond.selects RX4 yX4_isAlive yX4_isAlive, Cond.code yX4_isAlive cX4_isAlive 2 (some .boolean), Cond.methodLink RX4 39 yX4_wi, Cond.instanceMethod yX4_wi]
def wsX4_told_r2 : List Cond := [Cond.selects RX4 yX4_wi yX4_wi, Cond.code yX4_wi cX4_wi 3 (some .int), Cond.fieldLink RX4 16 "WidowPenniesModel" "rows" "[I", Cond.methodLink RX4 43 yX4_worthOf, Cond.instanceMethod yX4_worthOf, Cond.selects RX4 yX4_worthOf yX4_worthOf, Cond.code yX4_worthOf cX4_worthOf 3 (some .int), Cond.fieldLink RX4 22 "WidowPenniesModel" "worths" "[I", Cond.methodLink RX4 104 yX4_back, Cond.instanceMethod yX4_back, Cond.selects RX4 yX4_back yX4_back, Cond.code yX4_back cX4_back 2 (some .int), Cond.fieldLink RX4 7 "WidowPenniesModel" "rates" "[I", Cond.methodLink RX4 72 yX4_fail, Cond.instanceMethod yX4_fail, Cond.selects RX4 yX4_fail yX4_fail, Cond.code yX4_fail cX4_fail 2 (some .int)]
def wsX4_told : List Cond := .code yX4_told cX4_told 3 (some .int) :: ((wsX4_told_r1 ++ wsX4_told_r2) ++ wsX40)
def wsX4_counted_r1 : List Cond := [Cond.fieldLink RX4 19 "WidowPenniesModel" "numbers" "[I", Cond.fieldLink RX4 36 "WidowPenniesModel" "widows" "I", Cond.methodLink RX4 51 yX4_isAlive, Cond.instanceMethod yX4_isAlive, Cond.selects RX4 yX4_isAlive yX4_isAlive, Cond.initialized RX4, Cond.code yX4_isAlive cX4_isAlive 2 (some .boolean), Cond.methodLink RX4 39 yX4_wi, Cond.instanceMethod yX4_wi, Cond.selects RX4 yX4_wi yX4_wi, Cond.code yX4_wi cX4_wi 3 (some .int), Cond.fieldLink RX4 16 "WidowPenniesModel" "rows" "[I", Cond.methodLink RX4 116 yX4_keptForAll, Cond.instanceMethod yX4_keptForAll, Cond.selects RX4 yX4_keptForAll yX4_keptForAll, Cond.code yX4_keptForAll cX4_keptForAll 3 (some .int), Cond.methodLink RX4 55 yX4_kept, Cond.instanceMethod yX4_kept, Cond.selects RX4 yX4_kept yX4_kept, Cond.code yX4_kept cX4_kept 2 (some .int), Cond.methodLink RX4 43 yX4_worthOf, Cond.instanceMethod yX4_worthOf, Cond.selects RX4 yX4_worthOf yX4_worthOf, Cond.code yX4_worthOf cX4_worthOf 3 (some .int)]
def wsX4_counted_r2 : List Cond := [Cond.fieldLink RX4 22 "WidowPenniesModel" "worths" "[I"]
def wsX4_counted : List Cond := .code yX4_counted cX4_counted 4 (some .int) :: ((wsX4_counted_r1 ++ wsX4_counted_r2) ++ wsX40)
def wsX4_count_r1 : List Cond := [Cond.fieldLink RX4 28 "WidowPenniesModel" "thrown" "I", Cond.methodLink RX4 32 yX4_isIn, Cond.static yX4_isIn, Cond.initialized RX4, Cond.code yX4_isIn cX4_isIn 3 (some .boolean), Cond.methodLink RX4 120 yX4_counted, Cond.instanceMethod yX4_counted, Cond.selects RX4 yX4_counted yX4_counted, Cond.code yX4_counted cX4_counted 4 (some .int), Cond.fieldLink RX4 19 "WidowPenniesModel" "numbers" "[I", Cond.fieldLink RX4 36 "WidowPenniesModel" "widows" "I", Cond.methodLink RX4 51 yX4_isAlive, Cond.instanceMethod yX4_isAlive, Cond.selects RX4 yX4_isAlive yX4_isAlive, Cond.code yX4_isAlive cX4_isAlive 2 (some .boolean), Cond.methodLink RX4 39 yX4_wi, Cond.instanceMethod yX4_wi, Cond.selects RX4 yX4_wi yX4_wi, Cond.code yX4_wi cX4_wi 3 (some .int), Cond.fieldLink RX4 16 "WidowPenniesModel" "rows" "[I", Cond.methodLink RX4 116 yX4_keptForAll, Cond.instanceMethod yX4_keptForAll, Cond.selects RX4 yX4_keptForAll yX4_keptForAll, Cond.code yX4_keptForAll cX4_keptForAll 3 (some .int)]
def wsX4_count_r2 : List Cond := [Cond.methodLink RX4 55 yX4_kept, Cond.instanceMethod yX4_kept, Cond.selects RX4 yX4_kept yX4_kept, Cond.code yX4_kept cX4_kept 2 (some .int), Cond.methodLink RX4 43 yX4_worthOf, Cond.instanceMethod yX4_worthOf, Cond.selects RX4 yX4_worthOf yX4_worthOf, Cond.code yX4_worthOf cX4_worthOf 3 (some .int), Cond.fieldLink RX4 22 "WidowPenniesModel" "worths" "[I", Cond.methodLink RX4 72 yX4_fail, Cond.instanceMethod yX4_fail, Cond.selects RX4 yX4_fail yX4_fail, Cond.code yX4_fail cX4_fail 2 (some .int)]
def wsX4_count : List Cond := .code yX4_count cX4_count 2 (some .int) :: ((wsX4_count_r1 ++ wsX4_count_r2) ++ wsX40)
def wsX4_alive : List Cond := .code yX4_alive cX4_alive 5 (some .int) :: ([.fieldLink RX4 28 "WidowPenniesModel" "thrown" "I", .fieldLink RX4 13 "WidowPenniesModel" "deaths" "[I", .methodLink RX4 69 yX4_isAge, .static yX4_isAge, .initialized RX4, .code yX4_isAge cX4_isAge 1 (some .boolean), .methodLink RX4 32 yX4_isIn, .static yX4_isIn, .code yX4_isIn cX4_isIn 3 (some .boolean), .methodLink RX4 72 yX4_fail, .instanceMethod yX4_fail, .selects RX4 yX4_fail yX4_fail, .code yX4_fail cX4_fail 2 (some .int)] ++ wsX40)
def wsX4_copy : List Cond := .code yX4_copy cX4_copy 2 (some (.array .int)) :: ([.arrayClass .int, .methodLink RX4 91 arraycopyName, .native arraycopyName, .static arraycopyName, .initialized "java/lang/System"])
def wsX4_yearOn_r1 : List Cond := [Cond.fieldLink RX4 19 "WidowPenniesModel" "numbers" "[I", Cond.fieldLink RX4 7 "WidowPenniesModel" "rates" "[I", Cond.constantLong RX4 123 (1000), Cond.fieldLink RX4 36 "WidowPenniesModel" "widows" "I", Cond.methodLink RX4 97 yX4_comeIn, Cond.instanceMethod yX4_comeIn, Cond.selects RX4 yX4_comeIn yX4_comeIn, Cond.initialized RX4, Cond.code yX4_comeIn cX4_comeIn 3 none, Cond.constantLong RX4 59 (99999999), Cond.methodLink RX4 61 Lib.MathLoose.min_long.x, Cond.static Lib.MathLoose.min_long.x, Cond.initialized "java/lang/Math", Cond.code Lib.MathLoose.min_long.x Lib.MathLoose.min_long.code 4 (some .long), Cond.methodLink RX4 51 yX4_isAlive, Cond.instanceMethod yX4_isAlive, Cond.selects RX4 yX4_isAlive yX4_isAlive, Cond.code yX4_isAlive cX4_isAlive 2 (some .boolean), Cond.methodLink RX4 39 yX4_wi, Cond.instanceMethod yX4_wi, Cond.selects RX4 yX4_wi yX4_wi, Cond.code yX4_wi cX4_wi 3 (some .int), Cond.fieldLink RX4 16 "WidowPenniesModel" "rows" "[I", Cond.methodLink RX4 107 yX4_payOut]
def wsX4_yearOn_r2 : List Cond := [Cond.instanceMethod yX4_payOut, Cond.selects RX4 yX4_payOut yX4_payOut, Cond.code yX4_payOut cX4_payOut 3 none, Cond.methodLink RX4 65 yX4_let, Cond.instanceMethod yX4_let, Cond.selects RX4 yX4_let yX4_let, Cond.code yX4_let cX4_let 4 none]
def wsX4_yearOn : List Cond := .code yX4_yearOn cX4_yearOn 2 none :: ((wsX4_yearOn_r1 ++ wsX4_yearOn_r2) ++ wsX40)
def wsX4_yearsOn_r1 : List Cond := [Cond.methodLink RX4 125 yX4_yearOn, Cond.instanceMethod yX4_yearOn, Cond.selects RX4 yX4_yearOn yX4_yearOn, Cond.initialized RX4, Cond.code yX4_yearOn cX4_yearOn 2 none, Cond.fieldLink RX4 19 "WidowPenniesModel" "numbers" "[I", Cond.fieldLink RX4 7 "WidowPenniesModel" "rates" "[I", Cond.constantLong RX4 123 (1000), Cond.fieldLink RX4 36 "WidowPenniesModel" "widows" "I", Cond.methodLink RX4 97 yX4_comeIn, Cond.instanceMethod yX4_comeIn, Cond.selects RX4 yX4_comeIn yX4_comeIn, Cond.code yX4_comeIn cX4_comeIn 3 none, Cond.constantLong RX4 59 (99999999), Cond.methodLink RX4 61 Lib.MathLoose.min_long.x, Cond.static Lib.MathLoose.min_long.x, Cond.initialized "java/lang/Math", Cond.code Lib.MathLoose.min_long.x Lib.MathLoose.min_long.code 4 (some .long), Cond.methodLink RX4 51 yX4_isAlive, Cond.instanceMethod yX4_isAlive, Cond.selects RX4 yX4_isAlive yX4_isAlive, Cond.code yX4_isAlive cX4_isAlive 2 (some .boolean), Cond.methodLink RX4 39 yX4_wi, Cond.instanceMethod yX4_wi]
def wsX4_yearsOn_r2 : List Cond := [Cond.selects RX4 yX4_wi yX4_wi, Cond.code yX4_wi cX4_wi 3 (some .int), Cond.fieldLink RX4 16 "WidowPenniesModel" "rows" "[I", Cond.methodLink RX4 107 yX4_payOut, Cond.instanceMethod yX4_payOut, Cond.selects RX4 yX4_payOut yX4_payOut, Cond.code yX4_payOut cX4_payOut 3 none, Cond.methodLink RX4 65 yX4_let, Cond.instanceMethod yX4_let, Cond.selects RX4 yX4_let yX4_let, Cond.code yX4_let cX4_let 4 none]
def wsX4_yearsOn : List Cond := .code yX4_yearsOn cX4_yearsOn 3 none :: ((wsX4_yearsOn_r1 ++ wsX4_yearsOn_r2) ++ wsX40)
def wsX4_pass_r1 : List Cond := [Cond.fieldLink RX4 28 "WidowPenniesModel" "thrown" "I", Cond.fieldLink RX4 19 "WidowPenniesModel" "numbers" "[I", Cond.methodLink RX4 32 yX4_isIn, Cond.static yX4_isIn, Cond.initialized RX4, Cond.code yX4_isIn cX4_isIn 3 (some .boolean), Cond.methodLink RX4 72 yX4_fail, Cond.instanceMethod yX4_fail, Cond.selects RX4 yX4_fail yX4_fail, Cond.code yX4_fail cX4_fail 2 (some .int), Cond.methodLink RX4 128 yX4_yearsOn, Cond.instanceMethod yX4_yearsOn, Cond.selects RX4 yX4_yearsOn yX4_yearsOn, Cond.code yX4_yearsOn cX4_yearsOn 3 none, Cond.methodLink RX4 125 yX4_yearOn, Cond.instanceMethod yX4_yearOn, Cond.selects RX4 yX4_yearOn yX4_yearOn, Cond.code yX4_yearOn cX4_yearOn 2 none, Cond.fieldLink RX4 7 "WidowPenniesModel" "rates" "[I", Cond.constantLong RX4 123 (1000), Cond.fieldLink RX4 36 "WidowPenniesModel" "widows" "I", Cond.methodLink RX4 97 yX4_comeIn, Cond.instanceMethod yX4_comeIn, Cond.selects RX4 yX4_comeIn yX4_comeIn]
def wsX4_pass_r2 : List Cond := [Cond.code yX4_comeIn cX4_comeIn 3 none, Cond.constantLong RX4 59 (99999999), Cond.methodLink RX4 61 Lib.MathLoose.min_long.x, Cond.static Lib.MathLoose.min_long.x, Cond.initialized "java/lang/Math", Cond.code Lib.MathLoose.min_long.x Lib.MathLoose.min_long.code 4 (some .long), Cond.methodLink RX4 51 yX4_isAlive, Cond.instanceMethod yX4_isAlive, Cond.selects RX4 yX4_isAlive yX4_isAlive, Cond.code yX4_isAlive cX4_isAlive 2 (some .boolean), Cond.methodLink RX4 39 yX4_wi, Cond.instanceMethod yX4_wi, Cond.selects RX4 yX4_wi yX4_wi, Cond.code yX4_wi cX4_wi 3 (some .int), Cond.fieldLink RX4 16 "WidowPenniesModel" "rows" "[I", Cond.methodLink RX4 107 yX4_payOut, Cond.instanceMethod yX4_payOut, Cond.selects RX4 yX4_payOut yX4_payOut, Cond.code yX4_payOut cX4_payOut 3 none, Cond.methodLink RX4 65 yX4_let, Cond.instanceMethod yX4_let, Cond.selects RX4 yX4_let yX4_let, Cond.code yX4_let cX4_let 4 none]
def wsX4_pass : List Cond := .code yX4_pass cX4_pass 3 (some .int) :: ((wsX4_pass_r1 ++ wsX4_pass_r2) ++ wsX40)
def wsX4_foresee_r1 : List Cond := [Cond.fieldLink RX4 28 "WidowPenniesModel" "thrown" "I", Cond.fieldLink RX4 16 "WidowPenniesModel" "rows" "[I", Cond.fieldLink RX4 19 "WidowPenniesModel" "numbers" "[I", Cond.methodLink RX4 32 yX4_isIn, Cond.static yX4_isIn, Cond.initialized RX4, Cond.code yX4_isIn cX4_isIn 3 (some .boolean), Cond.methodLink RX4 72 yX4_fail, Cond.instanceMethod yX4_fail, Cond.selects RX4 yX4_fail yX4_fail, Cond.code yX4_fail cX4_fail 2 (some .int), Cond.methodLink RX4 132 yX4_copy, Cond.static yX4_copy, Cond.code yX4_copy cX4_copy 2 (some (.array .int)), Cond.arrayClass .int, Cond.methodLink RX4 91 arraycopyName, Cond.native arraycopyName, Cond.static arraycopyName, Cond.initialized "java/lang/System", Cond.methodLink RX4 128 yX4_yearsOn, Cond.instanceMethod yX4_yearsOn, Cond.selects RX4 yX4_yearsOn yX4_yearsOn, Cond.code yX4_yearsOn cX4_yearsOn 3 none, Cond.methodLink RX4 125 yX4_yearOn]
def wsX4_foresee_r2 : List Cond := [Cond.instanceMethod yX4_yearOn, Cond.selects RX4 yX4_yearOn yX4_yearOn, Cond.code yX4_yearOn cX4_yearOn 2 none, Cond.fieldLink RX4 7 "WidowPenniesModel" "rates" "[I", Cond.constantLong RX4 123 (1000), Cond.fieldLink RX4 36 "WidowPenniesModel" "widows" "I", Cond.methodLink RX4 97 yX4_comeIn, Cond.instanceMethod yX4_comeIn, Cond.selects RX4 yX4_comeIn yX4_comeIn, Cond.code yX4_comeIn cX4_comeIn 3 none, Cond.constantLong RX4 59 (99999999), Cond.methodLink RX4 61 Lib.MathLoose.min_long.x, Cond.static Lib.MathLoose.min_long.x, Cond.initialized "java/lang/Math", Cond.code Lib.MathLoose.min_long.x Lib.MathLoose.min_long.code 4 (some .long), Cond.methodLink RX4 51 yX4_isAlive, Cond.instanceMethod yX4_isAlive, Cond.selects RX4 yX4_isAlive yX4_isAlive, Cond.code yX4_isAlive cX4_isAlive 2 (some .boolean), Cond.methodLink RX4 39 yX4_wi, Cond.instanceMethod yX4_wi, Cond.selects RX4 yX4_wi yX4_wi, Cond.code yX4_wi cX4_wi 3 (some .int), Cond.methodLink RX4 107 yX4_payOut]
def wsX4_foresee_r3 : List Cond := [Cond.instanceMethod yX4_payOut, Cond.selects RX4 yX4_payOut yX4_payOut, Cond.code yX4_payOut cX4_payOut 3 none, Cond.methodLink RX4 65 yX4_let, Cond.instanceMethod yX4_let, Cond.selects RX4 yX4_let yX4_let, Cond.code yX4_let cX4_let 4 none, Cond.methodLink RX4 120 yX4_counted, Cond.instanceMethod yX4_counted, Cond.selects RX4 yX4_counted yX4_counted, Cond.code yX4_counted cX4_counted 4 (some .int), Cond.methodLink RX4 116 yX4_keptForAll, Cond.instanceMethod yX4_keptForAll, Cond.selects RX4 yX4_keptForAll yX4_keptForAll, Cond.code yX4_keptForAll cX4_keptForAll 3 (some .int), Cond.methodLink RX4 55 yX4_kept, Cond.instanceMethod yX4_kept, Cond.selects RX4 yX4_kept yX4_kept, Cond.code yX4_kept cX4_kept 2 (some .int), Cond.methodLink RX4 43 yX4_worthOf, Cond.instanceMethod yX4_worthOf, Cond.selects RX4 yX4_worthOf yX4_worthOf, Cond.code yX4_worthOf cX4_worthOf 3 (some .int), Cond.fieldLink RX4 22 "WidowPenniesModel" "worths" "[I"]
def wsX4_foresee : List Cond := .code yX4_foresee cX4_foresee 6 (some .int) :: ((wsX4_foresee_r1 ++ (wsX4_foresee_r2 ++ wsX4_foresee_r3)) ++ wsX40)
def wsX4_lasts_r1 : List Cond := [Cond.fieldLink RX4 28 "WidowPenniesModel" "thrown" "I", Cond.fieldLink RX4 16 "WidowPenniesModel" "rows" "[I", Cond.fieldLink RX4 19 "WidowPenniesModel" "numbers" "[I", Cond.methodLink RX4 132 yX4_copy, Cond.static yX4_copy, Cond.initialized RX4, Cond.code yX4_copy cX4_copy 2 (some (.array .int)), Cond.arrayClass .int, Cond.methodLink RX4 91 arraycopyName, Cond.native arraycopyName, Cond.static arraycopyName, Cond.initialized "java/lang/System", Cond.methodLink RX4 125 yX4_yearOn, Cond.instanceMethod yX4_yearOn, Cond.selects RX4 yX4_yearOn yX4_yearOn, Cond.code yX4_yearOn cX4_yearOn 2 none, Cond.fieldLink RX4 7 "WidowPenniesModel" "rates" "[I", Cond.constantLong RX4 123 (1000), Cond.fieldLink RX4 36 "WidowPenniesModel" "widows" "I", Cond.methodLink RX4 97 yX4_comeIn, Cond.instanceMethod yX4_comeIn, Cond.selects RX4 yX4_comeIn yX4_comeIn, Cond.code yX4_comeIn cX4_comeIn 3 none, Cond.constantLong RX4 59 (99999999)]
def wsX4_lasts_r2 : List Cond := [Cond.methodLink RX4 61 Lib.MathLoose.min_long.x, Cond.static Lib.MathLoose.min_long.x, Cond.initialized "java/lang/Math", Cond.code Lib.MathLoose.min_long.x Lib.MathLoose.min_long.code 4 (some .long), Cond.methodLink RX4 51 yX4_isAlive, Cond.instanceMethod yX4_isAlive, Cond.selects RX4 yX4_isAlive yX4_isAlive, Cond.code yX4_isAlive cX4_isAlive 2 (some .boolean), Cond.methodLink RX4 39 yX4_wi, Cond.instanceMethod yX4_wi, Cond.selects RX4 yX4_wi yX4_wi, Cond.code yX4_wi cX4_wi 3 (some .int), Cond.methodLink RX4 107 yX4_payOut, Cond.instanceMethod yX4_payOut, Cond.selects RX4 yX4_payOut yX4_payOut, Cond.code yX4_payOut cX4_payOut 3 none, Cond.methodLink RX4 65 yX4_let, Cond.instanceMethod yX4_let, Cond.selects RX4 yX4_let yX4_let, Cond.code yX4_let cX4_let 4 none]
def wsX4_lasts : List Cond := .code yX4_lasts cX4_lasts 4 (some .int) :: ((wsX4_lasts_r1 ++ wsX4_lasts_r2) ++ wsX40)
def wsX4_even_r1 : List Cond := [Cond.fieldLink RX4 28 "WidowPenniesModel" "thrown" "I", Cond.fieldLink RX4 7 "WidowPenniesModel" "rates" "[I", Cond.fieldLink RX4 75 "WidowPenniesModel" "HIGH" "[I", Cond.fieldLink RX4 19 "WidowPenniesModel" "numbers" "[I", Cond.methodLink RX4 25 yX4_reckon, Cond.instanceMethod yX4_reckon, Cond.selects RX4 yX4_reckon yX4_reckon, Cond.initialized RX4, Cond.code yX4_reckon cX4_reckon 4 none, Cond.fieldLink RX4 22 "WidowPenniesModel" "worths" "[I", Cond.fieldLink RX4 13 "WidowPenniesModel" "deaths" "[I", Cond.methodLink RX4 116 yX4_keptForAll, Cond.instanceMethod yX4_keptForAll, Cond.selects RX4 yX4_keptForAll yX4_keptForAll, Cond.code yX4_keptForAll cX4_keptForAll 3 (some .int), Cond.fieldLink RX4 36 "WidowPenniesModel" "widows" "I", Cond.methodLink RX4 55 yX4_kept, Cond.instanceMethod yX4_kept, Cond.selects RX4 yX4_kept yX4_kept, Cond.code yX4_kept cX4_kept 2 (some .int), Cond.methodLink RX4 51 yX4_isAlive, Cond.instanceMethod yX4_isAlive, Cond.selects RX4 yX4_isAlive yX4_isAlive, Cond.code yX4_isAlive cX4_isAlive 2 (some .boolean)]
def wsX4_even_r2 : List Cond := [Cond.methodLink RX4 39 yX4_wi, Cond.instanceMethod yX4_wi, Cond.selects RX4 yX4_wi yX4_wi, Cond.code yX4_wi cX4_wi 3 (some .int), Cond.fieldLink RX4 16 "WidowPenniesModel" "rows" "[I", Cond.methodLink RX4 43 yX4_worthOf, Cond.instanceMethod yX4_worthOf, Cond.selects RX4 yX4_worthOf yX4_worthOf, Cond.code yX4_worthOf cX4_worthOf 3 (some .int)]
def wsX4_even : List Cond := .code yX4_even cX4_even 4 (some .int) :: ((wsX4_even_r1 ++ wsX4_even_r2) ++ wsX40)
def wsX4_affords_r1 : List Cond := [Cond.fieldLink RX4 28 "WidowPenniesModel" "thrown" "I", Cond.constant RX4 112 (99999), Cond.methodLink RX4 69 yX4_isAge, Cond.static yX4_isAge, Cond.initialized RX4, Cond.code yX4_isAge cX4_isAge 1 (some .boolean), Cond.methodLink RX4 32 yX4_isIn, Cond.static yX4_isIn, Cond.code yX4_isIn cX4_isIn 3 (some .boolean), Cond.methodLink RX4 81 yX4_isLate, Cond.static yX4_isLate, Cond.code yX4_isLate cX4_isLate 1 (some .boolean), Cond.methodLink RX4 72 yX4_fail, Cond.instanceMethod yX4_fail, Cond.selects RX4 yX4_fail yX4_fail, Cond.code yX4_fail cX4_fail 2 (some .int), Cond.methodLink RX4 43 yX4_worthOf, Cond.instanceMethod yX4_worthOf, Cond.selects RX4 yX4_worthOf yX4_worthOf, Cond.code yX4_worthOf cX4_worthOf 3 (some .int), Cond.fieldLink RX4 22 "WidowPenniesModel" "worths" "[I", Cond.methodLink RX4 87 yX4_priceOf, Cond.instanceMethod yX4_priceOf, Cond.selects RX4 yX4_priceOf yX4_priceOf]
def wsX4_affords_r2 : List Cond := [Cond.code yX4_priceOf cX4_priceOf 5 (some .int), Cond.fieldLink RX4 7 "WidowPenniesModel" "rates" "[I", Cond.methodLink RX4 46 Lib.Math.max.name, Cond.static Lib.Math.max.name, Cond.initialized "java/lang/Math", Cond.code Lib.Math.max.name Lib.Math.max.code 2 (some .int)]
def wsX4_affords : List Cond := .code yX4_affords cX4_affords 5 (some .int) :: ((wsX4_affords_r1 ++ wsX4_affords_r2) ++ wsX40)
def wsX4_mean_r1 : List Cond := [Cond.fieldLink RX4 28 "WidowPenniesModel" "thrown" "I", Cond.fieldLink RX4 36 "WidowPenniesModel" "widows" "I", Cond.methodLink RX4 51 yX4_isAlive, Cond.instanceMethod yX4_isAlive, Cond.selects RX4 yX4_isAlive yX4_isAlive, Cond.initialized RX4, Cond.code yX4_isAlive cX4_isAlive 2 (some .boolean), Cond.methodLink RX4 39 yX4_wi, Cond.instanceMethod yX4_wi, Cond.selects RX4 yX4_wi yX4_wi, Cond.code yX4_wi cX4_wi 3 (some .int), Cond.fieldLink RX4 16 "WidowPenniesModel" "rows" "[I", Cond.methodLink RX4 120 yX4_counted, Cond.instanceMethod yX4_counted, Cond.selects RX4 yX4_counted yX4_counted, Cond.code yX4_counted cX4_counted 4 (some .int), Cond.fieldLink RX4 19 "WidowPenniesModel" "numbers" "[I", Cond.methodLink RX4 116 yX4_keptForAll, Cond.instanceMethod yX4_keptForAll, Cond.selects RX4 yX4_keptForAll yX4_keptForAll, Cond.code yX4_keptForAll cX4_keptForAll 3 (some .int), Cond.methodLink RX4 55 yX4_kept, Cond.instanceMethod yX4_kept, Cond.selects RX4 yX4_kept yX4_kept]
def wsX4_mean_r2 : List Cond := [Cond.code yX4_kept cX4_kept 2 (some .int), Cond.methodLink RX4 43 yX4_worthOf, Cond.instanceMethod yX4_worthOf, Cond.selects RX4 yX4_worthOf yX4_worthOf, Cond.code yX4_worthOf cX4_worthOf 3 (some .int), Cond.fieldLink RX4 22 "WidowPenniesModel" "worths" "[I"]
def wsX4_mean : List Cond := .code yX4_mean cX4_mean 3 (some .double) :: ((wsX4_mean_r1 ++ wsX4_mean_r2) ++ wsX40)
def wsX4_digest_r1 : List Cond := [Cond.fieldLink RX4 28 "WidowPenniesModel" "thrown" "I", Cond.constantLong RX4 136 (1667), Cond.constantLong RX4 138 (31), Cond.fieldLink RX4 7 "WidowPenniesModel" "rates" "[I", Cond.fieldLink RX4 13 "WidowPenniesModel" "deaths" "[I", Cond.fieldLink RX4 36 "WidowPenniesModel" "widows" "I", Cond.methodLink RX4 120 yX4_counted, Cond.instanceMethod yX4_counted, Cond.selects RX4 yX4_counted yX4_counted, Cond.initialized RX4, Cond.code yX4_counted cX4_counted 4 (some .int), Cond.fieldLink RX4 19 "WidowPenniesModel" "numbers" "[I", Cond.methodLink RX4 51 yX4_isAlive, Cond.instanceMethod yX4_isAlive, Cond.selects RX4 yX4_isAlive yX4_isAlive, Cond.code yX4_isAlive cX4_isAlive 2 (some .boolean), Cond.methodLink RX4 39 yX4_wi, Cond.instanceMethod yX4_wi, Cond.selects RX4 yX4_wi yX4_wi, Cond.code yX4_wi cX4_wi 3 (some .int), Cond.fieldLink RX4 16 "WidowPenniesModel" "rows" "[I", Cond.methodLink RX4 116 yX4_keptForAll, Cond.instanceMethod yX4_keptForAll, Cond.selects RX4 yX4_keptForAll yX4_keptForAll]
def wsX4_digest_r2 : List Cond := [Cond.code yX4_keptForAll cX4_keptForAll 3 (some .int), Cond.methodLink RX4 55 yX4_kept, Cond.instanceMethod yX4_kept, Cond.selects RX4 yX4_kept yX4_kept, Cond.code yX4_kept cX4_kept 2 (some .int), Cond.methodLink RX4 43 yX4_worthOf, Cond.instanceMethod yX4_worthOf, Cond.selects RX4 yX4_worthOf yX4_worthOf, Cond.code yX4_worthOf cX4_worthOf 3 (some .int), Cond.fieldLink RX4 22 "WidowPenniesModel" "worths" "[I", Cond.methodLink RX4 113 yX4_widowTold, Cond.instanceMethod yX4_widowTold, Cond.selects RX4 yX4_widowTold yX4_widowTold, Cond.code yX4_widowTold cX4_widowTold 3 (some .int), Cond.methodLink RX4 104 yX4_back, Cond.instanceMethod yX4_back, Cond.selects RX4 yX4_back yX4_back, Cond.code yX4_back cX4_back 2 (some .int)]
def wsX4_digest : List Cond := .code yX4_digest cX4_digest 7 (some .long) :: ((wsX4_digest_r1 ++ wsX4_digest_r2) ++ wsX40)
def wsJ9_max_7cf53 : List Cond := .code yJ9_max_7cf53 cJ9_max_7cf53 2 (some .int) :: ([])
def wsJ9_min_f86c9 : List Cond := .code yJ9_min_f86c9 cJ9_min_f86c9 4 (some .long) :: ([])
def wsL_setDeaths_r1 : List Cond := [Cond.classLink RL 13 "java/lang/IndexOutOfBoundsException", Cond.classLink RL 15 "java/lang/IllegalArgumentException", Cond.methodLink RL 7 yX3_setDeaths, Cond.instanceMethod yX3_setDeaths, Cond.selects RX3 yX3_setDeaths yX3_setDeaths, Cond.initialized RX3, Cond.code yX3_setDeaths cX3_setDeaths 4 (some .int), Cond.classLink RX3 32 "java/lang/IndexOutOfBoundsException", Cond.initialized "java/lang/IndexOutOfBoundsException", Cond.classLink RX3 39 "java/lang/IllegalArgumentException", Cond.initialized "java/lang/IllegalArgumentException", Cond.fieldLink RX3 12 "WidowPennies" "tables" "LWidowPennies$Tables;", Cond.methodLink RX3 28 yX3_isAge, Cond.static yX3_isAge, Cond.code yX3_isAge cX3_isAge 1 (some .boolean), Cond.methodLink RX3 44 yX1_deathsAt, Cond.instanceMethod yX1_deathsAt, Cond.selects RX1 yX1_deathsAt yX1_deathsAt, Cond.initialized RX1, Cond.code yX1_deathsAt cX1_deathsAt 2 (some .int), Cond.fieldLink RX1 9 "WidowPennies$Tables" "deaths" "[I", Cond.methodLink RX3 48 yX1_changeDeaths, Cond.instanceMethod yX1_changeDeaths, Cond.selects RX1 yX1_changeDeaths yX1_changeDeaths]
def wsL_setDeaths_r2 : List Cond := [Cond.code yX1_changeDeaths cX1_changeDeaths 3 none]
def wsL_setDeaths : List Cond := .codeWith yL_setDeaths cL_setDeaths 5 (some .int) [(0, 10, 13, 13), (0, 10, 17, 15)] :: ((wsL_setDeaths_r1 ++ wsL_setDeaths_r2) ++ wsX30 ++ wsX10 ++ (vx_atS RX3 36 "java/lang/IndexOutOfBoundsException" ["java/lang/RuntimeException", "java/lang/Exception"]).filter goodWord ++ (vx_atS RX3 43 "java/lang/IllegalArgumentException" ["java/lang/RuntimeException", "java/lang/Exception"]).filter goodWord)
def wsL_setRate : List Cond := .codeWith yL_setRate cL_setRate 5 (some .int) [(0, 10, 13, 13), (0, 10, 17, 15)] :: ([.classLink RL 13 "java/lang/IndexOutOfBoundsException", .classLink RL 15 "java/lang/IllegalArgumentException", .methodLink RL 17 yX3_setRate, .instanceMethod yX3_setRate, .selects RX3 yX3_setRate yX3_setRate, .initialized RX3, .code yX3_setRate cX3_setRate 4 (some .int), .classLink RX3 32 "java/lang/IndexOutOfBoundsException", .initialized "java/lang/IndexOutOfBoundsException", .classLink RX3 39 "java/lang/IllegalArgumentException", .initialized "java/lang/IllegalArgumentException", .fieldLink RX3 12 "WidowPennies" "tables" "LWidowPennies$Tables;", .methodLink RX3 56 yX1_rate, .instanceMethod yX1_rate, .selects RX1 yX1_rate yX1_rate, .initialized RX1, .code yX1_rate cX1_rate 2 (some .int), .fieldLink RX1 15 "WidowPennies$Tables" "rates" "[I", .methodLink RX3 59 yX1_changeRate, .instanceMethod yX1_changeRate, .selects RX1 yX1_changeRate yX1_changeRate, .code yX1_changeRate cX1_changeRate 3 none] ++ wsX30 ++ wsX10 ++ (vx_atS RX3 36 "java/lang/IndexOutOfBoundsException" ["java/lang/RuntimeException", "java/lang/Exception"]).filter goodWord ++ (vx_atS RX3 43 "java/lang/IllegalArgumentException" ["java/lang/RuntimeException", "java/lang/Exception"]).filter goodWord)
def wsL_buy_r1 : List Cond := [Cond.classLink RL 15 "java/lang/IllegalArgumentException", Cond.classLink RL 24 "java/lang/IllegalStateException", Cond.methodLink RL 20 yX3_buy, Cond.instanceMethod yX3_buy, Cond.selects RX3 yX3_buy yX3_buy, Cond.initialized RX3, Cond.code yX3_buy cX3_buy 5 (some .int), Cond.classLink RX3 76 "java/lang/IllegalStateException", Cond.initialized "java/lang/IllegalStateException", Cond.fieldLink RX3 21 "WidowPennies" "book" "LWidowPennies$Book;", Cond.fieldLink RX3 12 "WidowPennies" "tables" "LWidowPennies$Tables;", Cond.methodLink RX3 62 yX3_checkAge, Cond.static yX3_checkAge, Cond.code yX3_checkAge cX3_checkAge 1 none, Cond.classLink RX3 39 "java/lang/IllegalArgumentException", Cond.initialized "java/lang/IllegalArgumentException", Cond.methodLink RX3 28 yX3_isAge, Cond.static yX3_isAge, Cond.code yX3_isAge cX3_isAge 1 (some .boolean), Cond.methodLink RX3 66 yX3_checkSum, Cond.static yX3_checkSum, Cond.code yX3_checkSum cX3_checkSum 1 none, Cond.methodLink RX3 69 yX3_checkPutOff, Cond.static yX3_checkPutOff]
def wsL_buy_r2 : List Cond := [Cond.code yX3_checkPutOff cX3_checkPutOff 1 none, Cond.methodLink RX3 72 yX0_isFull, Cond.instanceMethod yX0_isFull, Cond.selects RX0 yX0_isFull yX0_isFull, Cond.initialized RX0, Cond.code yX0_isFull cX0_isFull 1 (some .boolean), Cond.fieldLink RX0 22 "WidowPennies$Book" "written" "I", Cond.methodLink RX3 81 yX1_worthNow, Cond.instanceMethod yX1_worthNow, Cond.selects RX1 yX1_worthNow yX1_worthNow, Cond.initialized RX1, Cond.code yX1_worthNow cX1_worthNow 3 (some .int), Cond.fieldLink RX1 15 "WidowPennies$Tables" "rates" "[I", Cond.methodLink RX1 22 yX1_worthWith, Cond.instanceMethod yX1_worthWith, Cond.selects RX1 yX1_worthWith yX1_worthWith, Cond.code yX1_worthWith cX1_worthWith 8 (some .int), Cond.methodLink RX1 26 yX1_deathsAt, Cond.instanceMethod yX1_deathsAt, Cond.selects RX1 yX1_deathsAt yX1_deathsAt, Cond.code yX1_deathsAt cX1_deathsAt 2 (some .int), Cond.fieldLink RX1 9 "WidowPennies$Tables" "deaths" "[I", Cond.methodLink RX3 87 yX1_priceOf, Cond.instanceMethod yX1_priceOf]
def wsL_buy_r3 : List Cond := [Cond.selects RX1 yX1_priceOf yX1_priceOf, Cond.code yX1_priceOf cX1_priceOf 5 (some .int), Cond.methodLink RX3 90 yX0_write, Cond.instanceMethod yX0_write, Cond.selects RX0 yX0_write yX0_write, Cond.code yX0_write cX0_write 6 (some .int), Cond.fieldLink RX0 34 "WidowPennies$Book" "prices" "I", Cond.methodLink RX0 26 yX0_widowAt, Cond.instanceMethod yX0_widowAt, Cond.selects RX0 yX0_widowAt yX0_widowAt, Cond.code yX0_widowAt cX0_widowAt 2 (some (.object "WidowPennies$Widow")), Cond.fieldLink RX0 17 "WidowPennies$Book" "widows" "[LWidowPennies$Widow;", Cond.methodLink RX0 30 yX2_start, Cond.instanceMethod yX2_start, Cond.selects RX2 yX2_start yX2_start, Cond.initialized RX2, Cond.code yX2_start cX2_start 5 none, Cond.fieldLink RX2 22 "WidowPennies$Widow" "age" "I", Cond.fieldLink RX2 25 "WidowPennies$Widow" "sum" "I", Cond.fieldLink RX2 28 "WidowPennies$Widow" "wait" "I", Cond.fieldLink RX2 19 "WidowPennies$Widow" "held" "I", Cond.fieldLink RX2 9 "WidowPennies$Widow" "state" "I", Cond.fieldLink RX2 31 "WidowPennies$Widow" "got" "I", Cond.fieldLink RX2 34 "WidowPennies$Widow" "cost" "I"]
def wsL_buy_r4 : List Cond := [Cond.methodLink RX0 37 yX0_takeIn, Cond.instanceMethod yX0_takeIn, Cond.selects RX0 yX0_takeIn yX0_takeIn, Cond.code yX0_takeIn cX0_takeIn 3 none, Cond.fieldLink RX0 41 "WidowPennies$Book" "chest" "I", Cond.constant RX0 44 (99999999)]
def wsL_buy : List Cond := .codeWith yL_buy cL_buy 6 (some .int) [(0, 12, 15, 15), (0, 12, 19, 24)] :: ((wsL_buy_r1 ++ (wsL_buy_r2 ++ (wsL_buy_r3 ++ wsL_buy_r4))) ++ wsX30 ++ wsX00 ++ wsX10 ++ wsX20 ++ (vx_atS RX3 80 "java/lang/IllegalStateException" ["java/lang/RuntimeException", "java/lang/Exception"]).filter goodWord ++ (vx_atS RX3 43 "java/lang/IllegalArgumentException" ["java/lang/RuntimeException", "java/lang/Exception"]).filter goodWord)
def wsL_die_r1 : List Cond := [Cond.classLink RL 13 "java/lang/IndexOutOfBoundsException", Cond.classLink RL 24 "java/lang/IllegalStateException", Cond.methodLink RL 26 yX3_die, Cond.instanceMethod yX3_die, Cond.selects RX3 yX3_die yX3_die, Cond.initialized RX3, Cond.code yX3_die cX3_die 4 (some .int), Cond.classLink RX3 76 "java/lang/IllegalStateException", Cond.initialized "java/lang/IllegalStateException", Cond.fieldLink RX3 21 "WidowPennies" "book" "LWidowPennies$Book;", Cond.fieldLink RX3 12 "WidowPennies" "tables" "LWidowPennies$Tables;", Cond.fieldLink RX3 112 "WidowPennies$Widow" "state" "I", Cond.methodLink RX3 94 yX3_checkWidow, Cond.instanceMethod yX3_checkWidow, Cond.selects RX3 yX3_checkWidow yX3_checkWidow, Cond.code yX3_checkWidow cX3_checkWidow 2 none, Cond.classLink RX3 32 "java/lang/IndexOutOfBoundsException", Cond.initialized "java/lang/IndexOutOfBoundsException", Cond.fieldLink RX3 191 "WidowPennies$Book" "written" "I", Cond.methodLink RX3 97 yX0_widowAt, Cond.instanceMethod yX0_widowAt, Cond.selects RX0 yX0_widowAt yX0_widowAt, Cond.initialized RX0, Cond.code yX0_widowAt cX0_widowAt 2 (some (.object "WidowPennies$Widow"))]
def wsL_die_r2 : List Cond := [Cond.fieldLink RX0 17 "WidowPennies$Book" "widows" "[LWidowPennies$Widow;", Cond.methodLink RX3 101 yX2_lives, Cond.instanceMethod yX2_lives, Cond.selects RX2 yX2_lives yX2_lives, Cond.initialized RX2, Cond.code yX2_lives cX2_lives 1 (some .boolean), Cond.fieldLink RX2 9 "WidowPennies$Widow" "state" "I", Cond.methodLink RX3 108 yX1_keptNow, Cond.instanceMethod yX1_keptNow, Cond.selects RX1 yX1_keptNow yX1_keptNow, Cond.initialized RX1, Cond.code yX1_keptNow cX1_keptNow 2 (some .int), Cond.fieldLink RX1 15 "WidowPennies$Tables" "rates" "[I", Cond.methodLink RX1 34 yX1_keptWith, Cond.instanceMethod yX1_keptWith, Cond.selects RX1 yX1_keptWith yX1_keptWith, Cond.code yX1_keptWith cX1_keptWith 3 (some .int), Cond.fieldLink RX1 44 "WidowPennies$Widow" "sum" "I", Cond.fieldLink RX1 48 "WidowPennies$Widow" "age" "I", Cond.fieldLink RX1 51 "WidowPennies$Widow" "wait" "I", Cond.methodLink RX1 38 yX2_lives, Cond.methodLink RX1 22 yX1_worthWith, Cond.instanceMethod yX1_worthWith, Cond.selects RX1 yX1_worthWith yX1_worthWith]
def wsL_die_r3 : List Cond := [Cond.code yX1_worthWith cX1_worthWith 8 (some .int), Cond.methodLink RX1 26 yX1_deathsAt, Cond.instanceMethod yX1_deathsAt, Cond.selects RX1 yX1_deathsAt yX1_deathsAt, Cond.code yX1_deathsAt cX1_deathsAt 2 (some .int), Cond.fieldLink RX1 9 "WidowPennies$Tables" "deaths" "[I", Cond.static yX3_isAge, Cond.code yX3_isAge cX3_isAge 1 (some .boolean)]
def wsL_die : List Cond := .codeWith yL_die cL_die 4 (some .int) [(0, 9, 12, 13), (0, 9, 15, 24)] :: ((wsL_die_r1 ++ (wsL_die_r2 ++ wsL_die_r3)) ++ wsX30 ++ wsX20 ++ wsX00 ++ wsX10 ++ (vx_atS RX3 80 "java/lang/IllegalStateException" ["java/lang/RuntimeException", "java/lang/Exception"]).filter goodWord ++ (vx_atS RX3 36 "java/lang/IndexOutOfBoundsException" ["java/lang/RuntimeException", "java/lang/Exception"]).filter goodWord)
def wsL_giveUp_r1 : List Cond := [Cond.classLink RL 13 "java/lang/IndexOutOfBoundsException", Cond.classLink RL 24 "java/lang/IllegalStateException", Cond.methodLink RL 30 yX3_giveUp, Cond.instanceMethod yX3_giveUp, Cond.selects RX3 yX3_giveUp yX3_giveUp, Cond.initialized RX3, Cond.code yX3_giveUp cX3_giveUp 4 (some .int), Cond.classLink RX3 76 "java/lang/IllegalStateException", Cond.initialized "java/lang/IllegalStateException", Cond.fieldLink RX3 21 "WidowPennies" "book" "LWidowPennies$Book;", Cond.fieldLink RX3 12 "WidowPennies" "tables" "LWidowPennies$Tables;", Cond.fieldLink RX3 112 "WidowPennies$Widow" "state" "I", Cond.fieldLink RX3 124 "WidowPennies$Widow" "got" "I", Cond.methodLink RX3 94 yX3_checkWidow, Cond.instanceMethod yX3_checkWidow, Cond.selects RX3 yX3_checkWidow yX3_checkWidow, Cond.code yX3_checkWidow cX3_checkWidow 2 none, Cond.classLink RX3 32 "java/lang/IndexOutOfBoundsException", Cond.initialized "java/lang/IndexOutOfBoundsException", Cond.fieldLink RX3 191 "WidowPennies$Book" "written" "I", Cond.methodLink RX3 97 yX0_widowAt, Cond.instanceMethod yX0_widowAt, Cond.selects RX0 yX0_widowAt yX0_widowAt, Cond.initialized RX0]
def wsL_giveUp_r2 : List Cond := [Cond.code yX0_widowAt cX0_widowAt 2 (some (.object "WidowPennies$Widow")), Cond.fieldLink RX0 17 "WidowPennies$Book" "widows" "[LWidowPennies$Widow;", Cond.methodLink RX3 116 yX2_canGiveUp, Cond.instanceMethod yX2_canGiveUp, Cond.selects RX2 yX2_canGiveUp yX2_canGiveUp, Cond.initialized RX2, Cond.code yX2_canGiveUp cX2_canGiveUp 1 (some .boolean), Cond.fieldLink RX2 19 "WidowPennies$Widow" "held" "I", Cond.methodLink RX2 15 yX2_lives, Cond.instanceMethod yX2_lives, Cond.selects RX2 yX2_lives yX2_lives, Cond.code yX2_lives cX2_lives 1 (some .boolean), Cond.fieldLink RX2 9 "WidowPennies$Widow" "state" "I", Cond.methodLink RX3 121 yX1_givenBack, Cond.instanceMethod yX1_givenBack, Cond.selects RX1 yX1_givenBack yX1_givenBack, Cond.initialized RX1, Cond.code yX1_givenBack cX1_givenBack 3 (some .int), Cond.fieldLink RX1 15 "WidowPennies$Tables" "rates" "[I", Cond.methodLink RX1 54 yX2_canGiveUp, Cond.methodLink RX1 57 yX1_keptNow, Cond.instanceMethod yX1_keptNow, Cond.selects RX1 yX1_keptNow yX1_keptNow, Cond.code yX1_keptNow cX1_keptNow 2 (some .int)]
def wsL_giveUp_r3 : List Cond := [Cond.methodLink RX1 34 yX1_keptWith, Cond.instanceMethod yX1_keptWith, Cond.selects RX1 yX1_keptWith yX1_keptWith, Cond.code yX1_keptWith cX1_keptWith 3 (some .int), Cond.fieldLink RX1 44 "WidowPennies$Widow" "sum" "I", Cond.fieldLink RX1 48 "WidowPennies$Widow" "age" "I", Cond.fieldLink RX1 51 "WidowPennies$Widow" "wait" "I", Cond.methodLink RX1 38 yX2_lives, Cond.methodLink RX1 22 yX1_worthWith, Cond.instanceMethod yX1_worthWith, Cond.selects RX1 yX1_worthWith yX1_worthWith, Cond.code yX1_worthWith cX1_worthWith 8 (some .int), Cond.methodLink RX1 26 yX1_deathsAt, Cond.instanceMethod yX1_deathsAt, Cond.selects RX1 yX1_deathsAt yX1_deathsAt, Cond.code yX1_deathsAt cX1_deathsAt 2 (some .int), Cond.fieldLink RX1 9 "WidowPennies$Tables" "deaths" "[I", Cond.static yX3_isAge, Cond.code yX3_isAge cX3_isAge 1 (some .boolean), Cond.methodLink RX3 127 yX0_payOut, Cond.instanceMethod yX0_payOut, Cond.selects RX0 yX0_payOut yX0_payOut, Cond.code yX0_payOut cX0_payOut 2 none, Cond.fieldLink RX0 41 "WidowPennies$Book" "chest" "I"]
def wsL_giveUp_r4 : List Cond := [Cond.fieldLink RX0 45 "WidowPennies$Book" "paidOut" "I"]
def wsL_giveUp : List Cond := .codeWith yL_giveUp cL_giveUp 4 (some .int) [(0, 9, 12, 13), (0, 9, 15, 24)] :: ((wsL_giveUp_r1 ++ (wsL_giveUp_r2 ++ (wsL_giveUp_r3 ++ wsL_giveUp_r4))) ++ wsX30 ++ wsX20 ++ wsX00 ++ wsX10 ++ (vx_atS RX3 80 "java/lang/IllegalStateException" ["java/lang/RuntimeException", "java/lang/Exception"]).filter goodWord ++ (vx_atS RX3 36 "java/lang/IndexOutOfBoundsException" ["java/lang/RuntimeException", "java/lang/Exception"]).filter goodWord)
def wsL_put : List Cond := .codeWith yL_put cL_put 4 (some .int) [(0, 9, 12, 15)] :: ([.classLink RL 15 "java/lang/IllegalArgumentException", .methodLink RL 33 yX3_put, .instanceMethod yX3_put, .selects RX3 yX3_put yX3_put, .initialized RX3, .code yX3_put cX3_put 2 (some .int), .classLink RX3 39 "java/lang/IllegalArgumentException", .initialized "java/lang/IllegalArgumentException", .constant RX3 130 (-99999), .constant RX3 131 (99999), .fieldLink RX3 21 "WidowPennies" "book" "LWidowPennies$Book;", .fieldLink RX3 137 "WidowPennies$Book" "chest" "I", .methodLink RX3 134 yX0_takeIn, .instanceMethod yX0_takeIn, .selects RX0 yX0_takeIn yX0_takeIn, .initialized RX0, .code yX0_takeIn cX0_takeIn 3 none, .fieldLink RX0 41 "WidowPennies$Book" "chest" "I", .constant RX0 44 (99999999)] ++ wsX30 ++ wsX00 ++ (vx_atS RX3 43 "java/lang/IllegalArgumentException" ["java/lang/RuntimeException", "java/lang/Exception"]).filter goodWord)
def wsL_worth_r1 : List Cond := [Cond.classLink RL 15 "java/lang/IllegalArgumentException", Cond.methodLink RL 36 yX3_worth, Cond.instanceMethod yX3_worth, Cond.selects RX3 yX3_worth yX3_worth, Cond.initialized RX3, Cond.code yX3_worth cX3_worth 3 (some .int), Cond.fieldLink RX3 12 "WidowPennies" "tables" "LWidowPennies$Tables;", Cond.methodLink RX3 62 yX3_checkAge, Cond.static yX3_checkAge, Cond.code yX3_checkAge cX3_checkAge 1 none, Cond.classLink RX3 39 "java/lang/IllegalArgumentException", Cond.initialized "java/lang/IllegalArgumentException", Cond.methodLink RX3 28 yX3_isAge, Cond.static yX3_isAge, Cond.code yX3_isAge cX3_isAge 1 (some .boolean), Cond.methodLink RX3 69 yX3_checkPutOff, Cond.static yX3_checkPutOff, Cond.code yX3_checkPutOff cX3_checkPutOff 1 none, Cond.methodLink RX3 81 yX1_worthNow, Cond.instanceMethod yX1_worthNow, Cond.selects RX1 yX1_worthNow yX1_worthNow, Cond.initialized RX1, Cond.code yX1_worthNow cX1_worthNow 3 (some .int), Cond.fieldLink RX1 15 "WidowPennies$Tables" "rates" "[I"]
def wsL_worth_r2 : List Cond := [Cond.methodLink RX1 22 yX1_worthWith, Cond.instanceMethod yX1_worthWith, Cond.selects RX1 yX1_worthWith yX1_worthWith, Cond.code yX1_worthWith cX1_worthWith 8 (some .int), Cond.methodLink RX1 26 yX1_deathsAt, Cond.instanceMethod yX1_deathsAt, Cond.selects RX1 yX1_deathsAt yX1_deathsAt, Cond.code yX1_deathsAt cX1_deathsAt 2 (some .int), Cond.fieldLink RX1 9 "WidowPennies$Tables" "deaths" "[I"]
def wsL_worth : List Cond := .codeWith yL_worth cL_worth 5 (some .int) [(0, 10, 13, 15)] :: ((wsL_worth_r1 ++ wsL_worth_r2) ++ wsX30 ++ wsX10 ++ (vx_atS RX3 43 "java/lang/IllegalArgumentException" ["java/lang/RuntimeException", "java/lang/Exception"]).filter goodWord)
def wsL_price_r1 : List Cond := [Cond.classLink RL 15 "java/lang/IllegalArgumentException", Cond.methodLink RL 39 yX3_price, Cond.instanceMethod yX3_price, Cond.selects RX3 yX3_price yX3_price, Cond.initialized RX3, Cond.code yX3_price cX3_price 4 (some .int), Cond.fieldLink RX3 12 "WidowPennies" "tables" "LWidowPennies$Tables;", Cond.methodLink RX3 62 yX3_checkAge, Cond.static yX3_checkAge, Cond.code yX3_checkAge cX3_checkAge 1 none, Cond.classLink RX3 39 "java/lang/IllegalArgumentException", Cond.initialized "java/lang/IllegalArgumentException", Cond.methodLink RX3 28 yX3_isAge, Cond.static yX3_isAge, Cond.code yX3_isAge cX3_isAge 1 (some .boolean), Cond.methodLink RX3 66 yX3_checkSum, Cond.static yX3_checkSum, Cond.code yX3_checkSum cX3_checkSum 1 none, Cond.methodLink RX3 69 yX3_checkPutOff, Cond.static yX3_checkPutOff, Cond.code yX3_checkPutOff cX3_checkPutOff 1 none, Cond.methodLink RX3 81 yX1_worthNow, Cond.instanceMethod yX1_worthNow, Cond.selects RX1 yX1_worthNow yX1_worthNow]
def wsL_price_r2 : List Cond := [Cond.initialized RX1, Cond.code yX1_worthNow cX1_worthNow 3 (some .int), Cond.fieldLink RX1 15 "WidowPennies$Tables" "rates" "[I", Cond.methodLink RX1 22 yX1_worthWith, Cond.instanceMethod yX1_worthWith, Cond.selects RX1 yX1_worthWith yX1_worthWith, Cond.code yX1_worthWith cX1_worthWith 8 (some .int), Cond.methodLink RX1 26 yX1_deathsAt, Cond.instanceMethod yX1_deathsAt, Cond.selects RX1 yX1_deathsAt yX1_deathsAt, Cond.code yX1_deathsAt cX1_deathsAt 2 (some .int), Cond.fieldLink RX1 9 "WidowPennies$Tables" "deaths" "[I", Cond.methodLink RX3 87 yX1_priceOf, Cond.instanceMethod yX1_priceOf, Cond.selects RX1 yX1_priceOf yX1_priceOf, Cond.code yX1_priceOf cX1_priceOf 5 (some .int)]
def wsL_price : List Cond := .codeWith yL_price cL_price 6 (some .int) [(0, 12, 15, 15)] :: ((wsL_price_r1 ++ wsL_price_r2) ++ wsX30 ++ wsX10 ++ (vx_atS RX3 43 "java/lang/IllegalArgumentException" ["java/lang/RuntimeException", "java/lang/Exception"]).filter goodWord)
def wsL_told_r1 : List Cond := [Cond.classLink RL 13 "java/lang/IndexOutOfBoundsException", Cond.methodLink RL 42 yX3_told, Cond.instanceMethod yX3_told, Cond.selects RX3 yX3_told yX3_told, Cond.initialized RX3, Cond.code yX3_told cX3_told 3 (some .int), Cond.classLink RX3 32 "java/lang/IndexOutOfBoundsException", Cond.initialized "java/lang/IndexOutOfBoundsException", Cond.fieldLink RX3 12 "WidowPennies" "tables" "LWidowPennies$Tables;", Cond.fieldLink RX3 21 "WidowPennies" "book" "LWidowPennies$Book;", Cond.methodLink RX3 94 yX3_checkWidow, Cond.instanceMethod yX3_checkWidow, Cond.selects RX3 yX3_checkWidow yX3_checkWidow, Cond.code yX3_checkWidow cX3_checkWidow 2 none, Cond.fieldLink RX3 191 "WidowPennies$Book" "written" "I", Cond.methodLink RX3 97 yX0_widowAt, Cond.instanceMethod yX0_widowAt, Cond.selects RX0 yX0_widowAt yX0_widowAt, Cond.initialized RX0, Cond.code yX0_widowAt cX0_widowAt 2 (some (.object "WidowPennies$Widow")), Cond.fieldLink RX0 17 "WidowPennies$Book" "widows" "[LWidowPennies$Widow;", Cond.methodLink RX3 142 yX1_tellOf, Cond.instanceMethod yX1_tellOf, Cond.selects RX1 yX1_tellOf yX1_tellOf]
def wsL_told_r2 : List Cond := [Cond.initialized RX1, Cond.code yX1_tellOf cX1_tellOf 3 (some .int), Cond.fieldLink RX1 48 "WidowPennies$Widow" "age" "I", Cond.fieldLink RX1 44 "WidowPennies$Widow" "sum" "I", Cond.fieldLink RX1 51 "WidowPennies$Widow" "wait" "I", Cond.fieldLink RX1 61 "WidowPennies$Widow" "held" "I", Cond.fieldLink RX1 64 "WidowPennies$Widow" "state" "I", Cond.fieldLink RX1 67 "WidowPennies$Widow" "got" "I", Cond.fieldLink RX1 70 "WidowPennies$Widow" "cost" "I", Cond.methodLink RX1 57 yX1_keptNow, Cond.instanceMethod yX1_keptNow, Cond.selects RX1 yX1_keptNow yX1_keptNow, Cond.code yX1_keptNow cX1_keptNow 2 (some .int), Cond.fieldLink RX1 15 "WidowPennies$Tables" "rates" "[I", Cond.methodLink RX1 34 yX1_keptWith, Cond.instanceMethod yX1_keptWith, Cond.selects RX1 yX1_keptWith yX1_keptWith, Cond.code yX1_keptWith cX1_keptWith 3 (some .int), Cond.methodLink RX1 38 yX2_lives, Cond.instanceMethod yX2_lives, Cond.selects RX2 yX2_lives yX2_lives, Cond.initialized RX2, Cond.code yX2_lives cX2_lives 1 (some .boolean), Cond.fieldLink RX2 9 "WidowPennies$Widow" "state" "I"]
def wsL_told_r3 : List Cond := [Cond.methodLink RX1 22 yX1_worthWith, Cond.instanceMethod yX1_worthWith, Cond.selects RX1 yX1_worthWith yX1_worthWith, Cond.code yX1_worthWith cX1_worthWith 8 (some .int), Cond.methodLink RX1 26 yX1_deathsAt, Cond.instanceMethod yX1_deathsAt, Cond.selects RX1 yX1_deathsAt yX1_deathsAt, Cond.code yX1_deathsAt cX1_deathsAt 2 (some .int), Cond.fieldLink RX1 9 "WidowPennies$Tables" "deaths" "[I", Cond.static yX3_isAge, Cond.code yX3_isAge cX3_isAge 1 (some .boolean), Cond.methodLink RX1 73 yX1_givenBack, Cond.instanceMethod yX1_givenBack, Cond.selects RX1 yX1_givenBack yX1_givenBack, Cond.code yX1_givenBack cX1_givenBack 3 (some .int), Cond.methodLink RX1 54 yX2_canGiveUp, Cond.instanceMethod yX2_canGiveUp, Cond.selects RX2 yX2_canGiveUp yX2_canGiveUp, Cond.code yX2_canGiveUp cX2_canGiveUp 1 (some .boolean), Cond.fieldLink RX2 19 "WidowPennies$Widow" "held" "I", Cond.methodLink RX2 15 yX2_lives]
def wsL_told : List Cond := .codeWith yL_told cL_told 5 (some .int) [(0, 10, 13, 13)] :: ((wsL_told_r1 ++ (wsL_told_r2 ++ wsL_told_r3)) ++ wsX30 ++ wsX00 ++ wsX20 ++ wsX10 ++ (vx_atS RX3 36 "java/lang/IndexOutOfBoundsException" ["java/lang/RuntimeException", "java/lang/Exception"]).filter goodWord)
def wsL_count_r1 : List Cond := [Cond.classLink RL 13 "java/lang/IndexOutOfBoundsException", Cond.methodLink RL 45 yX3_count, Cond.instanceMethod yX3_count, Cond.selects RX3 yX3_count yX3_count, Cond.initialized RX3, Cond.code yX3_count cX3_count 2 (some .int), Cond.classLink RX3 32 "java/lang/IndexOutOfBoundsException", Cond.initialized "java/lang/IndexOutOfBoundsException", Cond.fieldLink RX3 21 "WidowPennies" "book" "LWidowPennies$Book;", Cond.methodLink RX3 146 yX0_tell, Cond.instanceMethod yX0_tell, Cond.selects RX0 yX0_tell yX0_tell, Cond.initialized RX0, Cond.code yX0_tell cX0_tell 2 (some .int), Cond.fieldLink RX0 48 "WidowPennies$Book" "year" "I", Cond.fieldLink RX0 22 "WidowPennies$Book" "written" "I", Cond.fieldLink RX0 41 "WidowPennies$Book" "chest" "I", Cond.fieldLink RX0 9 "WidowPennies$Book" "tables" "LWidowPennies$Tables;", Cond.fieldLink RX0 45 "WidowPennies$Book" "paidOut" "I", Cond.fieldLink RX0 34 "WidowPennies$Book" "prices" "I", Cond.methodLink RX0 77 yX0_living, Cond.instanceMethod yX0_living, Cond.selects RX0 yX0_living yX0_living, Cond.code yX0_living cX0_living 3 (some .int)]
def wsL_count_r2 : List Cond := [Cond.methodLink RX0 26 yX0_widowAt, Cond.instanceMethod yX0_widowAt, Cond.selects RX0 yX0_widowAt yX0_widowAt, Cond.code yX0_widowAt cX0_widowAt 2 (some (.object "WidowPennies$Widow")), Cond.fieldLink RX0 17 "WidowPennies$Book" "widows" "[LWidowPennies$Widow;", Cond.methodLink RX0 66 yX2_lives, Cond.instanceMethod yX2_lives, Cond.selects RX2 yX2_lives yX2_lives, Cond.initialized RX2, Cond.code yX2_lives cX2_lives 1 (some .boolean), Cond.fieldLink RX2 9 "WidowPennies$Widow" "state" "I", Cond.methodLink RX0 58 yX1_rate, Cond.instanceMethod yX1_rate, Cond.selects RX1 yX1_rate yX1_rate, Cond.initialized RX1, Cond.code yX1_rate cX1_rate 2 (some .int), Cond.fieldLink RX1 15 "WidowPennies$Tables" "rates" "[I", Cond.methodLink RX0 80 yX0_keptForAll, Cond.instanceMethod yX0_keptForAll, Cond.selects RX0 yX0_keptForAll yX0_keptForAll, Cond.code yX0_keptForAll cX0_keptForAll 4 (some .int), Cond.methodLink RX0 86 yX1_keptWith, Cond.instanceMethod yX1_keptWith, Cond.selects RX1 yX1_keptWith yX1_keptWith]
def wsL_count_r3 : List Cond := [Cond.code yX1_keptWith cX1_keptWith 3 (some .int), Cond.fieldLink RX1 44 "WidowPennies$Widow" "sum" "I", Cond.fieldLink RX1 48 "WidowPennies$Widow" "age" "I", Cond.fieldLink RX1 51 "WidowPennies$Widow" "wait" "I", Cond.methodLink RX1 38 yX2_lives, Cond.methodLink RX1 22 yX1_worthWith, Cond.instanceMethod yX1_worthWith, Cond.selects RX1 yX1_worthWith yX1_worthWith, Cond.code yX1_worthWith cX1_worthWith 8 (some .int), Cond.methodLink RX1 26 yX1_deathsAt, Cond.instanceMethod yX1_deathsAt, Cond.selects RX1 yX1_deathsAt yX1_deathsAt, Cond.code yX1_deathsAt cX1_deathsAt 2 (some .int), Cond.fieldLink RX1 9 "WidowPennies$Tables" "deaths" "[I", Cond.static yX3_isAge, Cond.code yX3_isAge cX3_isAge 1 (some .boolean), Cond.methodLink RX0 83 yX0_sumsDue, Cond.instanceMethod yX0_sumsDue, Cond.selects RX0 yX0_sumsDue yX0_sumsDue, Cond.code yX0_sumsDue cX0_sumsDue 4 (some .int), Cond.fieldLink RX0 93 "WidowPennies$Widow" "wait" "I", Cond.fieldLink RX0 96 "WidowPennies$Widow" "sum" "I"]
def wsL_count : List Cond := .codeWith yL_count cL_count 4 (some .int) [(0, 9, 12, 13)] :: ((wsL_count_r1 ++ (wsL_count_r2 ++ wsL_count_r3)) ++ wsX30 ++ wsX00 ++ wsX20 ++ wsX10 ++ (vx_atS RX3 36 "java/lang/IndexOutOfBoundsException" ["java/lang/RuntimeException", "java/lang/Exception"]).filter goodWord)
def wsL_alive_r1 : List Cond := [Cond.classLink RL 15 "java/lang/IllegalArgumentException", Cond.methodLink RL 48 yX3_alive, Cond.instanceMethod yX3_alive, Cond.selects RX3 yX3_alive yX3_alive, Cond.initialized RX3, Cond.code yX3_alive cX3_alive 3 (some .int), Cond.classLink RX3 39 "java/lang/IllegalArgumentException", Cond.initialized "java/lang/IllegalArgumentException", Cond.fieldLink RX3 12 "WidowPennies" "tables" "LWidowPennies$Tables;", Cond.methodLink RX3 62 yX3_checkAge, Cond.static yX3_checkAge, Cond.code yX3_checkAge cX3_checkAge 1 none, Cond.methodLink RX3 28 yX3_isAge, Cond.static yX3_isAge, Cond.code yX3_isAge cX3_isAge 1 (some .boolean), Cond.methodLink RX3 151 yX1_leftOfThousand, Cond.instanceMethod yX1_leftOfThousand, Cond.selects RX1 yX1_leftOfThousand yX1_leftOfThousand, Cond.initialized RX1, Cond.code yX1_leftOfThousand cX1_leftOfThousand 5 (some .int), Cond.methodLink RX1 26 yX1_deathsAt, Cond.instanceMethod yX1_deathsAt, Cond.selects RX1 yX1_deathsAt yX1_deathsAt, Cond.code yX1_deathsAt cX1_deathsAt 2 (some .int)]
def wsL_alive_r2 : List Cond := [Cond.fieldLink RX1 9 "WidowPennies$Tables" "deaths" "[I"]
def wsL_alive : List Cond := .codeWith yL_alive cL_alive 5 (some .int) [(0, 10, 13, 15)] :: ((wsL_alive_r1 ++ wsL_alive_r2) ++ wsX30 ++ wsX10 ++ (vx_atS RX3 43 "java/lang/IllegalArgumentException" ["java/lang/RuntimeException", "java/lang/Exception"]).filter goodWord)
def wsL_pass_r1 : List Cond := [Cond.classLink RL 15 "java/lang/IllegalArgumentException", Cond.methodLink RL 51 yX3_pass, Cond.instanceMethod yX3_pass, Cond.selects RX3 yX3_pass yX3_pass, Cond.initialized RX3, Cond.code yX3_pass cX3_pass 3 (some .int), Cond.fieldLink RX3 21 "WidowPennies" "book" "LWidowPennies$Book;", Cond.fieldLink RX3 157 "WidowPennies$Book" "paidOut" "I", Cond.methodLink RX3 154 yX3_checkYearsPassing, Cond.static yX3_checkYearsPassing, Cond.code yX3_checkYearsPassing cX3_checkYearsPassing 1 none, Cond.classLink RX3 39 "java/lang/IllegalArgumentException", Cond.initialized "java/lang/IllegalArgumentException", Cond.methodLink RX3 160 yX0_passYears, Cond.instanceMethod yX0_passYears, Cond.selects RX0 yX0_passYears yX0_passYears, Cond.initialized RX0, Cond.code yX0_passYears cX0_passYears 3 none, Cond.methodLink RX0 55 yX0_passYear, Cond.instanceMethod yX0_passYear, Cond.selects RX0 yX0_passYear yX0_passYear, Cond.code yX0_passYear cX0_passYear 3 none, Cond.fieldLink RX0 41 "WidowPennies$Book" "chest" "I", Cond.fieldLink RX0 9 "WidowPennies$Book" "tables" "LWidowPennies$Tables;"]
def wsL_pass_r2 : List Cond := [Cond.constantLong RX0 64 (1000), Cond.fieldLink RX0 22 "WidowPennies$Book" "written" "I", Cond.fieldLink RX0 48 "WidowPennies$Book" "year" "I", Cond.methodLink RX0 58 yX1_rate, Cond.instanceMethod yX1_rate, Cond.selects RX1 yX1_rate yX1_rate, Cond.initialized RX1, Cond.code yX1_rate cX1_rate 2 (some .int), Cond.fieldLink RX1 15 "WidowPennies$Tables" "rates" "[I", Cond.methodLink RX0 37 yX0_takeIn, Cond.instanceMethod yX0_takeIn, Cond.selects RX0 yX0_takeIn yX0_takeIn, Cond.code yX0_takeIn cX0_takeIn 3 none, Cond.constant RX0 44 (99999999), Cond.methodLink RX0 26 yX0_widowAt, Cond.instanceMethod yX0_widowAt, Cond.selects RX0 yX0_widowAt yX0_widowAt, Cond.code yX0_widowAt cX0_widowAt 2 (some (.object "WidowPennies$Widow")), Cond.fieldLink RX0 17 "WidowPennies$Book" "widows" "[LWidowPennies$Widow;", Cond.methodLink RX0 66 yX2_lives, Cond.instanceMethod yX2_lives, Cond.selects RX2 yX2_lives yX2_lives, Cond.initialized RX2, Cond.code yX2_lives cX2_lives 1 (some .boolean)]
def wsL_pass_r3 : List Cond := [Cond.fieldLink RX2 9 "WidowPennies$Widow" "state" "I", Cond.methodLink RX0 70 yX2_liveYear, Cond.instanceMethod yX2_liveYear, Cond.selects RX2 yX2_liveYear yX2_liveYear, Cond.code yX2_liveYear cX2_liveYear 2 (some .int), Cond.fieldLink RX2 28 "WidowPennies$Widow" "wait" "I", Cond.fieldLink RX2 25 "WidowPennies$Widow" "sum" "I", Cond.fieldLink RX2 31 "WidowPennies$Widow" "got" "I", Cond.fieldLink RX2 22 "WidowPennies$Widow" "age" "I", Cond.fieldLink RX2 19 "WidowPennies$Widow" "held" "I", Cond.methodLink RX0 74 yX0_payOut, Cond.instanceMethod yX0_payOut, Cond.selects RX0 yX0_payOut yX0_payOut, Cond.code yX0_payOut cX0_payOut 2 none, Cond.fieldLink RX0 45 "WidowPennies$Book" "paidOut" "I"]
def wsL_pass : List Cond := .codeWith yL_pass cL_pass 4 (some .int) [(0, 9, 12, 15)] :: ((wsL_pass_r1 ++ (wsL_pass_r2 ++ wsL_pass_r3)) ++ wsX30 ++ wsX00 ++ wsX10 ++ wsX20 ++ (vx_atS RX3 43 "java/lang/IllegalArgumentException" ["java/lang/RuntimeException", "java/lang/Exception"]).filter goodWord)
def wsL_foresee_r1 : List Cond := [Cond.classLink RL 15 "java/lang/IllegalArgumentException", Cond.classLink RL 13 "java/lang/IndexOutOfBoundsException", Cond.methodLink RL 54 yX3_foresee, Cond.instanceMethod yX3_foresee, Cond.selects RX3 yX3_foresee yX3_foresee, Cond.initialized RX3, Cond.code yX3_foresee cX3_foresee 3 (some .int), Cond.classLink RX3 32 "java/lang/IndexOutOfBoundsException", Cond.initialized "java/lang/IndexOutOfBoundsException", Cond.fieldLink RX3 25 "WidowPennies" "trial" "LWidowPennies$Book;", Cond.fieldLink RX3 21 "WidowPennies" "book" "LWidowPennies$Book;", Cond.methodLink RX3 154 yX3_checkYearsPassing, Cond.static yX3_checkYearsPassing, Cond.code yX3_checkYearsPassing cX3_checkYearsPassing 1 none, Cond.classLink RX3 39 "java/lang/IllegalArgumentException", Cond.initialized "java/lang/IllegalArgumentException", Cond.methodLink RX3 165 yX0_copy, Cond.instanceMethod yX0_copy, Cond.selects RX0 yX0_copy yX0_copy, Cond.initialized RX0, Cond.code yX0_copy cX0_copy 3 none, Cond.fieldLink RX0 22 "WidowPennies$Book" "written" "I", Cond.fieldLink RX0 41 "WidowPennies$Book" "chest" "I", Cond.fieldLink RX0 45 "WidowPennies$Book" "paidOut" "I"]
def wsL_foresee_r2 : List Cond := [Cond.fieldLink RX0 34 "WidowPennies$Book" "prices" "I", Cond.fieldLink RX0 48 "WidowPennies$Book" "year" "I", Cond.fieldLink RX0 17 "WidowPennies$Book" "widows" "[LWidowPennies$Widow;", Cond.methodLink RX0 51 yX2_copy, Cond.instanceMethod yX2_copy, Cond.selects RX2 yX2_copy yX2_copy, Cond.initialized RX2, Cond.code yX2_copy cX2_copy 2 none, Cond.fieldLink RX2 22 "WidowPennies$Widow" "age" "I", Cond.fieldLink RX2 25 "WidowPennies$Widow" "sum" "I", Cond.fieldLink RX2 28 "WidowPennies$Widow" "wait" "I", Cond.fieldLink RX2 19 "WidowPennies$Widow" "held" "I", Cond.fieldLink RX2 9 "WidowPennies$Widow" "state" "I", Cond.fieldLink RX2 31 "WidowPennies$Widow" "got" "I", Cond.fieldLink RX2 34 "WidowPennies$Widow" "cost" "I", Cond.methodLink RX3 160 yX0_passYears, Cond.instanceMethod yX0_passYears, Cond.selects RX0 yX0_passYears yX0_passYears, Cond.code yX0_passYears cX0_passYears 3 none, Cond.methodLink RX0 55 yX0_passYear, Cond.instanceMethod yX0_passYear, Cond.selects RX0 yX0_passYear yX0_passYear, Cond.code yX0_passYear cX0_passYear 3 none, Cond.fieldLink RX0 9 "WidowPennies$Book" "tables" "LWidowPennies$Tables;"]
def wsL_foresee_r3 : List Cond := [Cond.constantLong RX0 64 (1000), Cond.methodLink RX0 58 yX1_rate, Cond.instanceMethod yX1_rate, Cond.selects RX1 yX1_rate yX1_rate, Cond.initialized RX1, Cond.code yX1_rate cX1_rate 2 (some .int), Cond.fieldLink RX1 15 "WidowPennies$Tables" "rates" "[I", Cond.methodLink RX0 37 yX0_takeIn, Cond.instanceMethod yX0_takeIn, Cond.selects RX0 yX0_takeIn yX0_takeIn, Cond.code yX0_takeIn cX0_takeIn 3 none, Cond.constant RX0 44 (99999999), Cond.methodLink RX0 26 yX0_widowAt, Cond.instanceMethod yX0_widowAt, Cond.selects RX0 yX0_widowAt yX0_widowAt, Cond.code yX0_widowAt cX0_widowAt 2 (some (.object "WidowPennies$Widow")), Cond.methodLink RX0 66 yX2_lives, Cond.instanceMethod yX2_lives, Cond.selects RX2 yX2_lives yX2_lives, Cond.code yX2_lives cX2_lives 1 (some .boolean), Cond.methodLink RX0 70 yX2_liveYear, Cond.instanceMethod yX2_liveYear, Cond.selects RX2 yX2_liveYear yX2_liveYear, Cond.code yX2_liveYear cX2_liveYear 2 (some .int)]
def wsL_foresee_r4 : List Cond := [Cond.methodLink RX0 74 yX0_payOut, Cond.instanceMethod yX0_payOut, Cond.selects RX0 yX0_payOut yX0_payOut, Cond.code yX0_payOut cX0_payOut 2 none, Cond.methodLink RX3 146 yX0_tell, Cond.instanceMethod yX0_tell, Cond.selects RX0 yX0_tell yX0_tell, Cond.code yX0_tell cX0_tell 2 (some .int), Cond.methodLink RX0 77 yX0_living, Cond.instanceMethod yX0_living, Cond.selects RX0 yX0_living yX0_living, Cond.code yX0_living cX0_living 3 (some .int), Cond.methodLink RX0 80 yX0_keptForAll, Cond.instanceMethod yX0_keptForAll, Cond.selects RX0 yX0_keptForAll yX0_keptForAll, Cond.code yX0_keptForAll cX0_keptForAll 4 (some .int), Cond.methodLink RX0 86 yX1_keptWith, Cond.instanceMethod yX1_keptWith, Cond.selects RX1 yX1_keptWith yX1_keptWith, Cond.code yX1_keptWith cX1_keptWith 3 (some .int), Cond.fieldLink RX1 44 "WidowPennies$Widow" "sum" "I", Cond.fieldLink RX1 48 "WidowPennies$Widow" "age" "I", Cond.fieldLink RX1 51 "WidowPennies$Widow" "wait" "I", Cond.methodLink RX1 38 yX2_lives]
def wsL_foresee_r5 : List Cond := [Cond.methodLink RX1 22 yX1_worthWith, Cond.instanceMethod yX1_worthWith, Cond.selects RX1 yX1_worthWith yX1_worthWith, Cond.code yX1_worthWith cX1_worthWith 8 (some .int), Cond.methodLink RX1 26 yX1_deathsAt, Cond.instanceMethod yX1_deathsAt, Cond.selects RX1 yX1_deathsAt yX1_deathsAt, Cond.code yX1_deathsAt cX1_deathsAt 2 (some .int), Cond.fieldLink RX1 9 "WidowPennies$Tables" "deaths" "[I", Cond.static yX3_isAge, Cond.code yX3_isAge cX3_isAge 1 (some .boolean), Cond.methodLink RX0 83 yX0_sumsDue, Cond.instanceMethod yX0_sumsDue, Cond.selects RX0 yX0_sumsDue yX0_sumsDue, Cond.code yX0_sumsDue cX0_sumsDue 4 (some .int), Cond.fieldLink RX0 93 "WidowPennies$Widow" "wait" "I", Cond.fieldLink RX0 96 "WidowPennies$Widow" "sum" "I"]
def wsL_foresee : List Cond := .codeWith yL_foresee cL_foresee 5 (some .int) [(0, 10, 13, 15), (0, 10, 17, 13)] :: ((wsL_foresee_r1 ++ (wsL_foresee_r2 ++ (wsL_foresee_r3 ++ (wsL_foresee_r4 ++ wsL_foresee_r5)))) ++ wsX30 ++ wsX00 ++ wsX20 ++ wsX10 ++ (vx_atS RX3 36 "java/lang/IndexOutOfBoundsException" ["java/lang/RuntimeException", "java/lang/Exception"]).filter goodWord ++ (vx_atS RX3 43 "java/lang/IllegalArgumentException" ["java/lang/RuntimeException", "java/lang/Exception"]).filter goodWord)
def wsL_affords_r1 : List Cond := [Cond.classLink RL 15 "java/lang/IllegalArgumentException", Cond.methodLink RL 57 yX3_affords, Cond.instanceMethod yX3_affords, Cond.selects RX3 yX3_affords yX3_affords, Cond.initialized RX3, Cond.code yX3_affords cX3_affords 5 (some .int), Cond.classLink RX3 39 "java/lang/IllegalArgumentException", Cond.initialized "java/lang/IllegalArgumentException", Cond.constant RX3 131 (99999), Cond.fieldLink RX3 12 "WidowPennies" "tables" "LWidowPennies$Tables;", Cond.methodLink RX3 62 yX3_checkAge, Cond.static yX3_checkAge, Cond.code yX3_checkAge cX3_checkAge 1 none, Cond.methodLink RX3 28 yX3_isAge, Cond.static yX3_isAge, Cond.code yX3_isAge cX3_isAge 1 (some .boolean), Cond.methodLink RX3 69 yX3_checkPutOff, Cond.static yX3_checkPutOff, Cond.code yX3_checkPutOff cX3_checkPutOff 1 none, Cond.methodLink RX3 81 yX1_worthNow, Cond.instanceMethod yX1_worthNow, Cond.selects RX1 yX1_worthNow yX1_worthNow, Cond.initialized RX1, Cond.code yX1_worthNow cX1_worthNow 3 (some .int)]
def wsL_affords_r2 : List Cond := [Cond.fieldLink RX1 15 "WidowPennies$Tables" "rates" "[I", Cond.methodLink RX1 22 yX1_worthWith, Cond.instanceMethod yX1_worthWith, Cond.selects RX1 yX1_worthWith yX1_worthWith, Cond.code yX1_worthWith cX1_worthWith 8 (some .int), Cond.methodLink RX1 26 yX1_deathsAt, Cond.instanceMethod yX1_deathsAt, Cond.selects RX1 yX1_deathsAt yX1_deathsAt, Cond.code yX1_deathsAt cX1_deathsAt 2 (some .int), Cond.fieldLink RX1 9 "WidowPennies$Tables" "deaths" "[I", Cond.methodLink RX3 177 yX1_greatestSum, Cond.instanceMethod yX1_greatestSum, Cond.selects RX1 yX1_greatestSum yX1_greatestSum, Cond.code yX1_greatestSum cX1_greatestSum 6 (some .int), Cond.methodLink RX1 30 yX1_priceOf, Cond.instanceMethod yX1_priceOf, Cond.selects RX1 yX1_priceOf yX1_priceOf, Cond.code yX1_priceOf cX1_priceOf 5 (some .int)]
def wsL_affords : List Cond := .codeWith yL_affords cL_affords 6 (some .int) [(0, 12, 15, 15)] :: ((wsL_affords_r1 ++ wsL_affords_r2) ++ wsX30 ++ wsX10 ++ (vx_atS RX3 43 "java/lang/IllegalArgumentException" ["java/lang/RuntimeException", "java/lang/Exception"]).filter goodWord)
def wsL_law0_r1 : List Cond := [Cond.classLink RL 8 RX3, Cond.instantiable RX3 3, Cond.initialized RX3, Cond.classLink RL 61 RX4, Cond.instantiable RX4 7, Cond.initialized RX4, Cond.arrayClass .long, Cond.methodLink RL 60 yX3_init, Cond.instanceMethod yX3_init, Cond.code yX3_init cX3_init 1 none, Cond.methodLink RX3 3 objectInit, Cond.instanceMethod objectInit, Cond.code objectInit ⟨#[0xb1]⟩ 1 none, Cond.classLink RX3 9 RX1, Cond.instantiable RX1 2, Cond.initialized RX1, Cond.fieldLink RX3 12 "WidowPennies" "tables" "LWidowPennies$Tables;", Cond.classLink RX3 16 RX0, Cond.instantiable RX0 7, Cond.initialized RX0, Cond.fieldLink RX3 21 "WidowPennies" "book" "LWidowPennies$Book;", Cond.fieldLink RX3 25 "WidowPennies" "trial" "LWidowPennies$Book;", Cond.methodLink RX3 11 yX1_init, Cond.instanceMethod yX1_init]
def wsL_law0_r2 : List Cond := [Cond.code yX1_init cX1_init 2 none, Cond.methodLink RX1 3 objectInit, Cond.arrayClass .int, Cond.fieldLink RX1 9 "WidowPennies$Tables" "deaths" "[I", Cond.fieldLink RX1 15 "WidowPennies$Tables" "rates" "[I", Cond.methodLink RX3 18 yX0_init, Cond.instanceMethod yX0_init, Cond.code yX0_init cX0_init 3 none, Cond.methodLink RX0 3 objectInit, Cond.fieldLink RX0 9 "WidowPennies$Book" "tables" "LWidowPennies$Tables;", Cond.classLink RX0 15 RX2, Cond.fieldLink RX0 17 "WidowPennies$Book" "widows" "[LWidowPennies$Widow;", Cond.instantiable RX2 7, Cond.initialized RX2, Cond.instanceMethod yX2_init, Cond.code yX2_init cX2_init 1 none, Cond.methodLink RX2 3 objectInit, Cond.methodLink RL 63 yX4_init, Cond.instanceMethod yX4_init, Cond.code yX4_init cX4_init 2 none, Cond.methodLink RX4 1 objectInit, Cond.fieldLink RX4 7 "WidowPenniesModel" "rates" "[I", Cond.fieldLink RX4 13 "WidowPenniesModel" "deaths" "[I", Cond.fieldLink RX4 16 "WidowPenniesModel" "rows" "[I"]
def wsL_law0_r3 : List Cond := [Cond.fieldLink RX4 19 "WidowPenniesModel" "numbers" "[I", Cond.fieldLink RX4 22 "WidowPenniesModel" "worths" "[I", Cond.methodLink RX4 25 yX4_reckon, Cond.instanceMethod yX4_reckon, Cond.selects RX4 yX4_reckon yX4_reckon, Cond.code yX4_reckon cX4_reckon 4 none, Cond.methodLink RL 64 yL_setDeaths, Cond.static yL_setDeaths, Cond.initialized RL, Cond.codeWith yL_setDeaths cL_setDeaths 5 (some .int) [(0, 10, 13, 13), (0, 10, 17, 15)], Cond.classLink RL 13 "java/lang/IndexOutOfBoundsException", Cond.classLink RL 15 "java/lang/IllegalArgumentException", Cond.methodLink RL 7 yX3_setDeaths, Cond.instanceMethod yX3_setDeaths, Cond.selects RX3 yX3_setDeaths yX3_setDeaths, Cond.code yX3_setDeaths cX3_setDeaths 4 (some .int), Cond.classLink RX3 32 "java/lang/IndexOutOfBoundsException", Cond.initialized "java/lang/IndexOutOfBoundsException", Cond.classLink RX3 39 "java/lang/IllegalArgumentException", Cond.initialized "java/lang/IllegalArgumentException", Cond.methodLink RX3 28 yX3_isAge, Cond.static yX3_isAge, Cond.code yX3_isAge cX3_isAge 1 (some .boolean), Cond.methodLink RX3 44 yX1_deathsAt]
def wsL_law0_r4 : List Cond := [Cond.instanceMethod yX1_deathsAt, Cond.selects RX1 yX1_deathsAt yX1_deathsAt, Cond.code yX1_deathsAt cX1_deathsAt 2 (some .int), Cond.methodLink RX3 48 yX1_changeDeaths, Cond.instanceMethod yX1_changeDeaths, Cond.selects RX1 yX1_changeDeaths yX1_changeDeaths, Cond.code yX1_changeDeaths cX1_changeDeaths 3 none, Cond.methodLink RL 69 yX4_setDeaths, Cond.instanceMethod yX4_setDeaths, Cond.selects RX4 yX4_setDeaths yX4_setDeaths, Cond.code yX4_setDeaths cX4_setDeaths 4 (some .int), Cond.fieldLink RX4 28 "WidowPenniesModel" "thrown" "I", Cond.methodLink RX4 69 yX4_isAge, Cond.static yX4_isAge, Cond.code yX4_isAge cX4_isAge 1 (some .boolean), Cond.methodLink RX4 32 yX4_isIn, Cond.static yX4_isIn, Cond.code yX4_isIn cX4_isIn 3 (some .boolean), Cond.methodLink RX4 72 yX4_fail, Cond.instanceMethod yX4_fail, Cond.selects RX4 yX4_fail yX4_fail, Cond.code yX4_fail cX4_fail 2 (some .int), Cond.methodLink RL 70 yX4_thrown, Cond.instanceMethod yX4_thrown]
def wsL_law0_r5 : List Cond := [Cond.selects RX4 yX4_thrown yX4_thrown, Cond.code yX4_thrown cX4_thrown 1 (some .int), Cond.methodLink RL 74 yL_setRate, Cond.static yL_setRate, Cond.codeWith yL_setRate cL_setRate 5 (some .int) [(0, 10, 13, 13), (0, 10, 17, 15)], Cond.methodLink RL 17 yX3_setRate, Cond.instanceMethod yX3_setRate, Cond.selects RX3 yX3_setRate yX3_setRate, Cond.code yX3_setRate cX3_setRate 4 (some .int), Cond.methodLink RX3 56 yX1_rate, Cond.instanceMethod yX1_rate, Cond.selects RX1 yX1_rate yX1_rate, Cond.code yX1_rate cX1_rate 2 (some .int), Cond.methodLink RX3 59 yX1_changeRate, Cond.instanceMethod yX1_changeRate, Cond.selects RX1 yX1_changeRate yX1_changeRate, Cond.code yX1_changeRate cX1_changeRate 3 none, Cond.methodLink RL 76 yX4_setRate, Cond.instanceMethod yX4_setRate, Cond.selects RX4 yX4_setRate yX4_setRate, Cond.code yX4_setRate cX4_setRate 4 (some .int), Cond.fieldLink RX4 75 "WidowPenniesModel" "HIGH" "[I", Cond.methodLink RL 77 yL_buy, Cond.static yL_buy]
def wsL_law0_r6 : List Cond := [Cond.codeWith yL_buy cL_buy 6 (some .int) [(0, 12, 15, 15), (0, 12, 19, 24)], Cond.classLink RL 24 "java/lang/IllegalStateException", Cond.methodLink RL 20 yX3_buy, Cond.instanceMethod yX3_buy, Cond.selects RX3 yX3_buy yX3_buy, Cond.code yX3_buy cX3_buy 5 (some .int), Cond.classLink RX3 76 "java/lang/IllegalStateException", Cond.initialized "java/lang/IllegalStateException", Cond.methodLink RX3 62 yX3_checkAge, Cond.static yX3_checkAge, Cond.code yX3_checkAge cX3_checkAge 1 none, Cond.methodLink RX3 66 yX3_checkSum, Cond.static yX3_checkSum, Cond.code yX3_checkSum cX3_checkSum 1 none, Cond.methodLink RX3 69 yX3_checkPutOff, Cond.static yX3_checkPutOff, Cond.code yX3_checkPutOff cX3_checkPutOff 1 none, Cond.methodLink RX3 72 yX0_isFull, Cond.instanceMethod yX0_isFull, Cond.selects RX0 yX0_isFull yX0_isFull, Cond.code yX0_isFull cX0_isFull 1 (some .boolean), Cond.fieldLink RX0 22 "WidowPennies$Book" "written" "I", Cond.methodLink RX3 81 yX1_worthNow, Cond.instanceMethod yX1_worthNow]
def wsL_law0_r7 : List Cond := [Cond.selects RX1 yX1_worthNow yX1_worthNow, Cond.code yX1_worthNow cX1_worthNow 3 (some .int), Cond.methodLink RX1 22 yX1_worthWith, Cond.instanceMethod yX1_worthWith, Cond.selects RX1 yX1_worthWith yX1_worthWith, Cond.code yX1_worthWith cX1_worthWith 8 (some .int), Cond.methodLink RX1 26 yX1_deathsAt, Cond.methodLink RX3 87 yX1_priceOf, Cond.instanceMethod yX1_priceOf, Cond.selects RX1 yX1_priceOf yX1_priceOf, Cond.code yX1_priceOf cX1_priceOf 5 (some .int), Cond.methodLink RX3 90 yX0_write, Cond.instanceMethod yX0_write, Cond.selects RX0 yX0_write yX0_write, Cond.code yX0_write cX0_write 6 (some .int), Cond.fieldLink RX0 34 "WidowPennies$Book" "prices" "I", Cond.methodLink RX0 26 yX0_widowAt, Cond.instanceMethod yX0_widowAt, Cond.selects RX0 yX0_widowAt yX0_widowAt, Cond.code yX0_widowAt cX0_widowAt 2 (some (.object "WidowPennies$Widow")), Cond.methodLink RX0 30 yX2_start, Cond.instanceMethod yX2_start, Cond.selects RX2 yX2_start yX2_start, Cond.code yX2_start cX2_start 5 none]
def wsL_law0_r8 : List Cond := [Cond.fieldLink RX2 22 "WidowPennies$Widow" "age" "I", Cond.fieldLink RX2 25 "WidowPennies$Widow" "sum" "I", Cond.fieldLink RX2 28 "WidowPennies$Widow" "wait" "I", Cond.fieldLink RX2 19 "WidowPennies$Widow" "held" "I", Cond.fieldLink RX2 9 "WidowPennies$Widow" "state" "I", Cond.fieldLink RX2 31 "WidowPennies$Widow" "got" "I", Cond.fieldLink RX2 34 "WidowPennies$Widow" "cost" "I", Cond.methodLink RX0 37 yX0_takeIn, Cond.instanceMethod yX0_takeIn, Cond.selects RX0 yX0_takeIn yX0_takeIn, Cond.code yX0_takeIn cX0_takeIn 3 none, Cond.fieldLink RX0 41 "WidowPennies$Book" "chest" "I", Cond.constant RX0 44 (99999999), Cond.methodLink RL 80 yX4_buy, Cond.instanceMethod yX4_buy, Cond.selects RX4 yX4_buy yX4_buy, Cond.code yX4_buy cX4_buy 6 (some .int), Cond.fieldLink RX4 36 "WidowPenniesModel" "widows" "I", Cond.methodLink RX4 91 arraycopyName, Cond.native arraycopyName, Cond.static arraycopyName, Cond.initialized "java/lang/System", Cond.methodLink RX4 84 yX4_isBought, Cond.static yX4_isBought]
def wsL_law0_r9 : List Cond := [Cond.code yX4_isBought cX4_isBought 3 (some .boolean), Cond.methodLink RX4 78 yX4_isSum, Cond.static yX4_isSum, Cond.code yX4_isSum cX4_isSum 1 (some .boolean), Cond.methodLink RX4 81 yX4_isLate, Cond.static yX4_isLate, Cond.code yX4_isLate cX4_isLate 1 (some .boolean), Cond.methodLink RX4 43 yX4_worthOf, Cond.instanceMethod yX4_worthOf, Cond.selects RX4 yX4_worthOf yX4_worthOf, Cond.code yX4_worthOf cX4_worthOf 3 (some .int), Cond.methodLink RX4 87 yX4_priceOf, Cond.instanceMethod yX4_priceOf, Cond.selects RX4 yX4_priceOf yX4_priceOf, Cond.code yX4_priceOf cX4_priceOf 5 (some .int), Cond.methodLink RX4 46 Lib.Math.max.name, Cond.static Lib.Math.max.name, Cond.initialized "java/lang/Math", Cond.code Lib.Math.max.name Lib.Math.max.code 2 (some .int), Cond.methodLink RX4 97 yX4_comeIn, Cond.instanceMethod yX4_comeIn, Cond.selects RX4 yX4_comeIn yX4_comeIn, Cond.code yX4_comeIn cX4_comeIn 3 none, Cond.constantLong RX4 59 (99999999)]
def wsL_law0_r10 : List Cond := [Cond.methodLink RX4 61 Lib.MathLoose.min_long.x, Cond.static Lib.MathLoose.min_long.x, Cond.code Lib.MathLoose.min_long.x Lib.MathLoose.min_long.code 4 (some .long), Cond.methodLink RL 81 yL_die, Cond.static yL_die, Cond.codeWith yL_die cL_die 4 (some .int) [(0, 9, 12, 13), (0, 9, 15, 24)], Cond.methodLink RL 26 yX3_die, Cond.instanceMethod yX3_die, Cond.selects RX3 yX3_die yX3_die, Cond.code yX3_die cX3_die 4 (some .int), Cond.fieldLink RX3 112 "WidowPennies$Widow" "state" "I", Cond.methodLink RX3 94 yX3_checkWidow, Cond.instanceMethod yX3_checkWidow, Cond.selects RX3 yX3_checkWidow yX3_checkWidow, Cond.code yX3_checkWidow cX3_checkWidow 2 none, Cond.fieldLink RX3 191 "WidowPennies$Book" "written" "I", Cond.methodLink RX3 97 yX0_widowAt, Cond.methodLink RX3 101 yX2_lives, Cond.instanceMethod yX2_lives, Cond.selects RX2 yX2_lives yX2_lives, Cond.code yX2_lives cX2_lives 1 (some .boolean), Cond.methodLink RX3 108 yX1_keptNow, Cond.instanceMethod yX1_keptNow, Cond.selects RX1 yX1_keptNow yX1_keptNow]
def wsL_law0_r11 : List Cond := [Cond.code yX1_keptNow cX1_keptNow 2 (some .int), Cond.methodLink RX1 34 yX1_keptWith, Cond.instanceMethod yX1_keptWith, Cond.selects RX1 yX1_keptWith yX1_keptWith, Cond.code yX1_keptWith cX1_keptWith 3 (some .int), Cond.fieldLink RX1 44 "WidowPennies$Widow" "sum" "I", Cond.fieldLink RX1 48 "WidowPennies$Widow" "age" "I", Cond.fieldLink RX1 51 "WidowPennies$Widow" "wait" "I", Cond.methodLink RX1 38 yX2_lives, Cond.methodLink RL 84 yX4_die, Cond.instanceMethod yX4_die, Cond.selects RX4 yX4_die yX4_die, Cond.code yX4_die cX4_die 3 (some .int), Cond.methodLink RX4 101 yX4_isWidow, Cond.instanceMethod yX4_isWidow, Cond.selects RX4 yX4_isWidow yX4_isWidow, Cond.code yX4_isWidow cX4_isWidow 2 (some .boolean), Cond.methodLink RX4 51 yX4_isAlive, Cond.instanceMethod yX4_isAlive, Cond.selects RX4 yX4_isAlive yX4_isAlive, Cond.code yX4_isAlive cX4_isAlive 2 (some .boolean), Cond.methodLink RX4 39 yX4_wi, Cond.instanceMethod yX4_wi, Cond.selects RX4 yX4_wi yX4_wi]
def wsL_law0_r12 : List Cond := [Cond.code yX4_wi cX4_wi 3 (some .int), Cond.methodLink RX4 55 yX4_kept, Cond.instanceMethod yX4_kept, Cond.selects RX4 yX4_kept yX4_kept, Cond.code yX4_kept cX4_kept 2 (some .int), Cond.methodLink RX4 65 yX4_let, Cond.instanceMethod yX4_let, Cond.selects RX4 yX4_let yX4_let, Cond.code yX4_let cX4_let 4 none, Cond.methodLink RL 85 yL_giveUp, Cond.static yL_giveUp, Cond.codeWith yL_giveUp cL_giveUp 4 (some .int) [(0, 9, 12, 13), (0, 9, 15, 24)], Cond.methodLink RL 30 yX3_giveUp, Cond.instanceMethod yX3_giveUp, Cond.selects RX3 yX3_giveUp yX3_giveUp, Cond.code yX3_giveUp cX3_giveUp 4 (some .int), Cond.fieldLink RX3 124 "WidowPennies$Widow" "got" "I", Cond.methodLink RX3 116 yX2_canGiveUp, Cond.instanceMethod yX2_canGiveUp, Cond.selects RX2 yX2_canGiveUp yX2_canGiveUp, Cond.code yX2_canGiveUp cX2_canGiveUp 1 (some .boolean), Cond.methodLink RX2 15 yX2_lives, Cond.methodLink RX3 121 yX1_givenBack, Cond.instanceMethod yX1_givenBack]
def wsL_law0_r13 : List Cond := [Cond.selects RX1 yX1_givenBack yX1_givenBack, Cond.code yX1_givenBack cX1_givenBack 3 (some .int), Cond.methodLink RX1 54 yX2_canGiveUp, Cond.methodLink RX1 57 yX1_keptNow, Cond.methodLink RX3 127 yX0_payOut, Cond.instanceMethod yX0_payOut, Cond.selects RX0 yX0_payOut yX0_payOut, Cond.code yX0_payOut cX0_payOut 2 none, Cond.fieldLink RX0 45 "WidowPennies$Book" "paidOut" "I", Cond.methodLink RL 87 yX4_giveUp, Cond.instanceMethod yX4_giveUp, Cond.selects RX4 yX4_giveUp yX4_giveUp, Cond.code yX4_giveUp cX4_giveUp 3 (some .int), Cond.methodLink RX4 104 yX4_back, Cond.instanceMethod yX4_back, Cond.selects RX4 yX4_back yX4_back, Cond.code yX4_back cX4_back 2 (some .int), Cond.methodLink RX4 107 yX4_payOut, Cond.instanceMethod yX4_payOut, Cond.selects RX4 yX4_payOut yX4_payOut, Cond.code yX4_payOut cX4_payOut 3 none, Cond.methodLink RL 88 yL_put, Cond.static yL_put, Cond.codeWith yL_put cL_put 4 (some .int) [(0, 9, 12, 15)]]
def wsL_law0_r14 : List Cond := [Cond.methodLink RL 33 yX3_put, Cond.instanceMethod yX3_put, Cond.selects RX3 yX3_put yX3_put, Cond.code yX3_put cX3_put 2 (some .int), Cond.constant RX3 130 (-99999), Cond.constant RX3 131 (99999), Cond.fieldLink RX3 137 "WidowPennies$Book" "chest" "I", Cond.methodLink RX3 134 yX0_takeIn, Cond.methodLink RL 90 yX4_put, Cond.instanceMethod yX4_put, Cond.selects RX4 yX4_put yX4_put, Cond.code yX4_put cX4_put 2 (some .int), Cond.constant RX4 111 (-99999), Cond.constant RX4 112 (99999), Cond.methodLink RL 91 yL_worth, Cond.static yL_worth, Cond.codeWith yL_worth cL_worth 5 (some .int) [(0, 10, 13, 15)], Cond.methodLink RL 36 yX3_worth, Cond.instanceMethod yX3_worth, Cond.selects RX3 yX3_worth yX3_worth, Cond.code yX3_worth cX3_worth 3 (some .int), Cond.methodLink RL 93 yX4_worth, Cond.instanceMethod yX4_worth, Cond.selects RX4 yX4_worth yX4_worth]
def wsL_law0_r15 : List Cond := [Cond.code yX4_worth cX4_worth 3 (some .int), Cond.methodLink RL 94 yL_price, Cond.static yL_price, Cond.codeWith yL_price cL_price 6 (some .int) [(0, 12, 15, 15)], Cond.methodLink RL 39 yX3_price, Cond.instanceMethod yX3_price, Cond.selects RX3 yX3_price yX3_price, Cond.code yX3_price cX3_price 4 (some .int), Cond.methodLink RL 96 yX4_price, Cond.instanceMethod yX4_price, Cond.selects RX4 yX4_price yX4_price, Cond.code yX4_price cX4_price 4 (some .int), Cond.methodLink RL 97 yL_told, Cond.static yL_told, Cond.codeWith yL_told cL_told 5 (some .int) [(0, 10, 13, 13)], Cond.methodLink RL 42 yX3_told, Cond.instanceMethod yX3_told, Cond.selects RX3 yX3_told yX3_told, Cond.code yX3_told cX3_told 3 (some .int), Cond.methodLink RX3 142 yX1_tellOf, Cond.instanceMethod yX1_tellOf, Cond.selects RX1 yX1_tellOf yX1_tellOf, Cond.code yX1_tellOf cX1_tellOf 3 (some .int), Cond.fieldLink RX1 61 "WidowPennies$Widow" "held" "I"]
def wsL_law0_r16 : List Cond := [Cond.fieldLink RX1 64 "WidowPennies$Widow" "state" "I", Cond.fieldLink RX1 67 "WidowPennies$Widow" "got" "I", Cond.fieldLink RX1 70 "WidowPennies$Widow" "cost" "I", Cond.methodLink RX1 73 yX1_givenBack, Cond.methodLink RL 99 yX4_told, Cond.instanceMethod yX4_told, Cond.selects RX4 yX4_told yX4_told, Cond.code yX4_told cX4_told 3 (some .int), Cond.methodLink RX4 113 yX4_widowTold, Cond.instanceMethod yX4_widowTold, Cond.selects RX4 yX4_widowTold yX4_widowTold, Cond.code yX4_widowTold cX4_widowTold 3 (some .int), Cond.methodLink RL 100 yL_count, Cond.static yL_count, Cond.codeWith yL_count cL_count 4 (some .int) [(0, 9, 12, 13)], Cond.methodLink RL 45 yX3_count, Cond.instanceMethod yX3_count, Cond.selects RX3 yX3_count yX3_count, Cond.code yX3_count cX3_count 2 (some .int), Cond.methodLink RX3 146 yX0_tell, Cond.instanceMethod yX0_tell, Cond.selects RX0 yX0_tell yX0_tell, Cond.code yX0_tell cX0_tell 2 (some .int), Cond.fieldLink RX0 48 "WidowPennies$Book" "year" "I"]
def wsL_law0_r17 : List Cond := [Cond.methodLink RX0 77 yX0_living, Cond.instanceMethod yX0_living, Cond.selects RX0 yX0_living yX0_living, Cond.code yX0_living cX0_living 3 (some .int), Cond.methodLink RX0 66 yX2_lives, Cond.methodLink RX0 58 yX1_rate, Cond.methodLink RX0 80 yX0_keptForAll, Cond.instanceMethod yX0_keptForAll, Cond.selects RX0 yX0_keptForAll yX0_keptForAll, Cond.code yX0_keptForAll cX0_keptForAll 4 (some .int), Cond.methodLink RX0 86 yX1_keptWith, Cond.methodLink RX0 83 yX0_sumsDue, Cond.instanceMethod yX0_sumsDue, Cond.selects RX0 yX0_sumsDue yX0_sumsDue, Cond.code yX0_sumsDue cX0_sumsDue 4 (some .int), Cond.fieldLink RX0 93 "WidowPennies$Widow" "wait" "I", Cond.fieldLink RX0 96 "WidowPennies$Widow" "sum" "I", Cond.methodLink RL 102 yX4_count, Cond.instanceMethod yX4_count, Cond.selects RX4 yX4_count yX4_count, Cond.code yX4_count cX4_count 2 (some .int), Cond.methodLink RX4 120 yX4_counted, Cond.instanceMethod yX4_counted, Cond.selects RX4 yX4_counted yX4_counted]
def wsL_law0_r18 : List Cond := [Cond.code yX4_counted cX4_counted 4 (some .int), Cond.methodLink RX4 116 yX4_keptForAll, Cond.instanceMethod yX4_keptForAll, Cond.selects RX4 yX4_keptForAll yX4_keptForAll, Cond.code yX4_keptForAll cX4_keptForAll 3 (some .int), Cond.methodLink RL 103 yL_alive, Cond.static yL_alive, Cond.codeWith yL_alive cL_alive 5 (some .int) [(0, 10, 13, 15)], Cond.methodLink RL 48 yX3_alive, Cond.instanceMethod yX3_alive, Cond.selects RX3 yX3_alive yX3_alive, Cond.code yX3_alive cX3_alive 3 (some .int), Cond.methodLink RX3 151 yX1_leftOfThousand, Cond.instanceMethod yX1_leftOfThousand, Cond.selects RX1 yX1_leftOfThousand yX1_leftOfThousand, Cond.code yX1_leftOfThousand cX1_leftOfThousand 5 (some .int), Cond.methodLink RL 105 yX4_alive, Cond.instanceMethod yX4_alive, Cond.selects RX4 yX4_alive yX4_alive, Cond.code yX4_alive cX4_alive 5 (some .int), Cond.methodLink RL 106 yL_pass, Cond.static yL_pass, Cond.codeWith yL_pass cL_pass 4 (some .int) [(0, 9, 12, 15)], Cond.methodLink RL 51 yX3_pass]
def wsL_law0_r19 : List Cond := [Cond.instanceMethod yX3_pass, Cond.selects RX3 yX3_pass yX3_pass, Cond.code yX3_pass cX3_pass 3 (some .int), Cond.fieldLink RX3 157 "WidowPennies$Book" "paidOut" "I", Cond.methodLink RX3 154 yX3_checkYearsPassing, Cond.static yX3_checkYearsPassing, Cond.code yX3_checkYearsPassing cX3_checkYearsPassing 1 none, Cond.methodLink RX3 160 yX0_passYears, Cond.instanceMethod yX0_passYears, Cond.selects RX0 yX0_passYears yX0_passYears, Cond.code yX0_passYears cX0_passYears 3 none, Cond.methodLink RX0 55 yX0_passYear, Cond.instanceMethod yX0_passYear, Cond.selects RX0 yX0_passYear yX0_passYear, Cond.code yX0_passYear cX0_passYear 3 none, Cond.constantLong RX0 64 (1000), Cond.methodLink RX0 70 yX2_liveYear, Cond.instanceMethod yX2_liveYear, Cond.selects RX2 yX2_liveYear yX2_liveYear, Cond.code yX2_liveYear cX2_liveYear 2 (some .int), Cond.methodLink RX0 74 yX0_payOut, Cond.methodLink RL 108 yX4_pass, Cond.instanceMethod yX4_pass, Cond.selects RX4 yX4_pass yX4_pass]
def wsL_law0_r20 : List Cond := [Cond.code yX4_pass cX4_pass 3 (some .int), Cond.methodLink RX4 128 yX4_yearsOn, Cond.instanceMethod yX4_yearsOn, Cond.selects RX4 yX4_yearsOn yX4_yearsOn, Cond.code yX4_yearsOn cX4_yearsOn 3 none, Cond.methodLink RX4 125 yX4_yearOn, Cond.instanceMethod yX4_yearOn, Cond.selects RX4 yX4_yearOn yX4_yearOn, Cond.code yX4_yearOn cX4_yearOn 2 none, Cond.constantLong RX4 123 (1000), Cond.methodLink RL 109 yL_foresee, Cond.static yL_foresee, Cond.codeWith yL_foresee cL_foresee 5 (some .int) [(0, 10, 13, 15), (0, 10, 17, 13)], Cond.methodLink RL 54 yX3_foresee, Cond.instanceMethod yX3_foresee, Cond.selects RX3 yX3_foresee yX3_foresee, Cond.code yX3_foresee cX3_foresee 3 (some .int), Cond.methodLink RX3 165 yX0_copy, Cond.instanceMethod yX0_copy, Cond.selects RX0 yX0_copy yX0_copy, Cond.code yX0_copy cX0_copy 3 none, Cond.methodLink RX0 51 yX2_copy, Cond.instanceMethod yX2_copy, Cond.selects RX2 yX2_copy yX2_copy]
def wsL_law0_r21 : List Cond := [Cond.code yX2_copy cX2_copy 2 none, Cond.methodLink RL 111 yX4_foresee, Cond.instanceMethod yX4_foresee, Cond.selects RX4 yX4_foresee yX4_foresee, Cond.code yX4_foresee cX4_foresee 6 (some .int), Cond.methodLink RX4 132 yX4_copy, Cond.static yX4_copy, Cond.code yX4_copy cX4_copy 2 (some (.array .int)), Cond.methodLink RL 112 yX3_lasts, Cond.instanceMethod yX3_lasts, Cond.selects RX3 yX3_lasts yX3_lasts, Cond.code yX3_lasts cX3_lasts 2 (some .int), Cond.methodLink RX3 169 yX0_passYear, Cond.methodLink RL 115 yX4_lasts, Cond.instanceMethod yX4_lasts, Cond.selects RX4 yX4_lasts yX4_lasts, Cond.code yX4_lasts cX4_lasts 4 (some .int), Cond.methodLink RL 116 yX3_even, Cond.instanceMethod yX3_even, Cond.selects RX3 yX3_even yX3_even, Cond.code yX3_even cX3_even 4 (some .int), Cond.methodLink RX3 172 yX0_keptForAll, Cond.methodLink RL 119 yX4_even, Cond.instanceMethod yX4_even]
def wsL_law0_r22 : List Cond := [Cond.selects RX4 yX4_even yX4_even, Cond.code yX4_even cX4_even 4 (some .int), Cond.methodLink RL 120 yL_affords, Cond.static yL_affords, Cond.codeWith yL_affords cL_affords 6 (some .int) [(0, 12, 15, 15)], Cond.methodLink RL 57 yX3_affords, Cond.instanceMethod yX3_affords, Cond.selects RX3 yX3_affords yX3_affords, Cond.code yX3_affords cX3_affords 5 (some .int), Cond.methodLink RX3 177 yX1_greatestSum, Cond.instanceMethod yX1_greatestSum, Cond.selects RX1 yX1_greatestSum yX1_greatestSum, Cond.code yX1_greatestSum cX1_greatestSum 6 (some .int), Cond.methodLink RX1 30 yX1_priceOf, Cond.methodLink RL 122 yX4_affords, Cond.instanceMethod yX4_affords, Cond.selects RX4 yX4_affords yX4_affords, Cond.code yX4_affords cX4_affords 5 (some .int), Cond.methodLink RL 123 yX3_mean, Cond.instanceMethod yX3_mean, Cond.selects RX3 yX3_mean yX3_mean, Cond.code yX3_mean cX3_mean 2 (some .double), Cond.methodLink RX3 180 yX0_living, Cond.methodLink RX3 184 yX0_agesOfLiving]
def wsL_law0_r23 : List Cond := [Cond.instanceMethod yX0_agesOfLiving, Cond.selects RX0 yX0_agesOfLiving yX0_agesOfLiving, Cond.code yX0_agesOfLiving cX0_agesOfLiving 4 (some .int), Cond.fieldLink RX0 90 "WidowPennies$Widow" "age" "I", Cond.methodLink RL 127 yX4_mean, Cond.instanceMethod yX4_mean, Cond.selects RX4 yX4_mean yX4_mean, Cond.code yX4_mean cX4_mean 3 (some .double), Cond.methodLink RL 128 yX3_digest, Cond.instanceMethod yX3_digest, Cond.selects RX3 yX3_digest yX3_digest, Cond.code yX3_digest cX3_digest 5 (some .long), Cond.constantLong RX3 187 (1667), Cond.constantLong RX3 189 (31), Cond.methodLink RL 132 yX4_digest, Cond.instanceMethod yX4_digest, Cond.selects RX4 yX4_digest yX4_digest, Cond.code yX4_digest cX4_digest 7 (some .long), Cond.constantLong RX4 136 (1667), Cond.constantLong RX4 138 (31)]
def wsL_law0 : List Cond := (wsL_law0_r1 ++ (wsL_law0_r2 ++ (wsL_law0_r3 ++ (wsL_law0_r4 ++ (wsL_law0_r5 ++ (wsL_law0_r6 ++ (wsL_law0_r7 ++ (wsL_law0_r8 ++ (wsL_law0_r9 ++ (wsL_law0_r10 ++ (wsL_law0_r11 ++ (wsL_law0_r12 ++ (wsL_law0_r13 ++ (wsL_law0_r14 ++ (wsL_law0_r15 ++ (wsL_law0_r16 ++ (wsL_law0_r17 ++ (wsL_law0_r18 ++ (wsL_law0_r19 ++ (wsL_law0_r20 ++ (wsL_law0_r21 ++ (wsL_law0_r22 ++ wsL_law0_r23)))))))))))))))))))))) ++ wsX30 ++ wsX40 ++ wsX10 ++ wsX00 ++ wsX20 ++ ([] : List Cond)
def wsL_law : List Cond := wsL_law0 ++ (vx_atS RX3 36 "java/lang/IndexOutOfBoundsException" ["java/lang/RuntimeException", "java/lang/Exception"]).filter goodWord ++ (vx_atS RX3 43 "java/lang/IllegalArgumentException" ["java/lang/RuntimeException", "java/lang/Exception"]).filter goodWord ++ (vx_atS RX3 80 "java/lang/IllegalStateException" ["java/lang/RuntimeException", "java/lang/Exception"]).filter goodWord
end
section
theorem inJ9 : ∀ w ∈ wsJ90, w ∈ lw_tbl := by decide +kernel
theorem inJ0 : ∀ w ∈ wsJ00, w ∈ lw_tbl := by decide +kernel
theorem inJ10 : ∀ w ∈ wsJ100, w ∈ lw_tbl := by decide +kernel
set_option maxRecDepth 20000 in
theorem ggX0_init_X2_init : GoodIn wsX0_init wsX2_init := goodIn_r _ [10, 11, 2, 3] (by decide +kernel) (by decide +kernel)
set_option maxRecDepth 20000 in
theorem gX0_init_X2_init_n21 : GoodIn wsX0_init (wsX2_init) := ggX0_init_X2_init
theorem dX0_init_0 : decode cX0_init 0 = .ok (.aload_n 0, 1) := by decide +kernel
theorem dX0_init_1 : decode cX0_init 1 = .ok (.invokespecial 3, 3) := by decide +kernel
theorem dX0_init_4 : decode cX0_init 4 = .ok (.aload_n 0, 1) := by decide +kernel
theorem dX0_init_5 : decode cX0_init 5 = .ok (.aload_n 1, 1) := by decide +kernel
theorem dX0_init_6 : decode cX0_init 6 = .ok (.putfield 9, 3) := by decide +kernel
theorem dX0_init_9 : decode cX0_init 9 = .ok (.aload_n 0, 1) := by decide +kernel
theorem dX0_init_10 : decode cX0_init 10 = .ok (.bipush 10, 2) := by decide +kernel
theorem dX0_init_12 : decode cX0_init 12 = .ok (.anewarray 15, 3) := by decide +kernel
theorem dX0_init_15 : decode cX0_init 15 = .ok (.putfield 17, 3) := by decide +kernel
theorem dX0_init_18 : decode cX0_init 18 = .ok (.iconst 0, 1) := by decide +kernel
theorem dX0_init_19 : decode cX0_init 19 = .ok (.istore_n 2, 1) := by decide +kernel
theorem dX0_init_20 : decode cX0_init 20 = .ok (.iload_n 2, 1) := by decide +kernel
theorem dX0_init_21 : decode cX0_init 21 = .ok (.bipush 10, 2) := by decide +kernel
theorem dX0_init_23 : decode cX0_init 23 = .ok (.if_icmp .ge 22, 3) := by decide +kernel
theorem dX0_init_26 : decode cX0_init 26 = .ok (.aload_n 0, 1) := by decide +kernel
theorem dX0_init_27 : decode cX0_init 27 = .ok (.getfield 17, 3) := by decide +kernel
theorem dX0_init_30 : decode cX0_init 30 = .ok (.iload_n 2, 1) := by decide +kernel
theorem dX0_init_31 : decode cX0_init 31 = .ok (.new 15, 3) := by decide +kernel
theorem dX0_init_34 : decode cX0_init 34 = .ok (.dup, 1) := by decide +kernel
theorem dX0_init_35 : decode cX0_init 35 = .ok (.invokespecial 21, 3) := by decide +kernel
theorem dX0_init_38 : decode cX0_init 38 = .ok (.aastore, 1) := by decide +kernel
theorem dX0_init_39 : decode cX0_init 39 = .ok (.iinc 2 1, 3) := by decide +kernel
theorem dX0_init_42 : decode cX0_init 42 = .ok (.goto (-22), 3) := by decide +kernel
theorem dX0_init_45 : decode cX0_init 45 = .ok (.return_, 1) := by decide +kernel
theorem dX0_isFull_0 : decode cX0_isFull 0 = .ok (.aload_n 0, 1) := by decide +kernel
theorem dX0_isFull_1 : decode cX0_isFull 1 = .ok (.getfield 22, 3) := by decide +kernel
theorem dX0_isFull_4 : decode cX0_isFull 4 = .ok (.bipush 10, 2) := by decide +kernel
theorem dX0_isFull_6 : decode cX0_isFull 6 = .ok (.if_icmp .lt 7, 3) := by decide +kernel
theorem dX0_isFull_9 : decode cX0_isFull 9 = .ok (.iconst 1, 1) := by decide +kernel
theorem dX0_isFull_10 : decode cX0_isFull 10 = .ok (.goto 4, 3) := by decide +kernel
theorem dX0_isFull_13 : decode cX0_isFull 13 = .ok (.iconst 0, 1) := by decide +kernel
theorem dX0_isFull_14 : decode cX0_isFull 14 = .ok (.ireturn, 1) := by decide +kernel
theorem dX0_widowAt_0 : decode cX0_widowAt 0 = .ok (.aload_n 0, 1) := by decide +kernel
theorem dX0_widowAt_1 : decode cX0_widowAt 1 = .ok (.getfield 17, 3) := by decide +kernel
theorem dX0_widowAt_4 : decode cX0_widowAt 4 = .ok (.iload_n 1, 1) := by decide +kernel
theorem dX0_widowAt_5 : decode cX0_widowAt 5 = .ok (.ifCond .lt 13, 3) := by decide +kernel
theorem dX0_widowAt_8 : decode cX0_widowAt 8 = .ok (.iload_n 1, 1) := by decide +kernel
theorem dX0_widowAt_9 : decode cX0_widowAt 9 = .ok (.bipush 10, 2) := by decide +kernel
theorem dX0_widowAt_11 : decode cX0_widowAt 11 = .ok (.if_icmp .ge 7, 3) := by decide +kernel
theorem dX0_widowAt_14 : decode cX0_widowAt 14 = .ok (.iload_n 1, 1) := by decide +kernel
theorem dX0_widowAt_15 : decode cX0_widowAt 15 = .ok (.goto 4, 3) := by decide +kernel
theorem dX0_widowAt_18 : decode cX0_widowAt 18 = .ok (.iconst 0, 1) := by decide +kernel
theorem dX0_widowAt_19 : decode cX0_widowAt 19 = .ok (.aaload, 1) := by decide +kernel
theorem dX0_widowAt_20 : decode cX0_widowAt 20 = .ok (.areturn, 1) := by decide +kernel
set_option maxRecDepth 20000 in
theorem ggX0_write_X0_widowAt : GoodIn wsX0_write wsX0_widowAt := goodIn_r _ [7, 8, 27, 28, 29, 30, 31, 32, 33] (by decide +kernel) (by decide +kernel)
set_option maxRecDepth 20000 in
theorem gX0_write_X0_widowAt : GoodIn wsX0_write (wsV RX0 26 RX0 yX0_widowAt wsX0_widowAt) := goodIn_app (goodIn_of _ (by decide +kernel)) ggX0_write_X0_widowAt
set_option maxRecDepth 20000 in
theorem ggX0_write_X2_start : GoodIn wsX0_write wsX2_start := goodIn_r _ [13, 14, 15, 16, 17, 18, 19, 20, 34, 35, 36, 37, 38, 39, 40] (by decide +kernel) (by decide +kernel)
set_option maxRecDepth 20000 in
theorem gX0_write_X2_start : GoodIn wsX0_write (wsV RX0 30 RX2 yX2_start wsX2_start) := goodIn_app (goodIn_of _ (by decide +kernel)) ggX0_write_X2_start
set_option maxRecDepth 20000 in
theorem ggX0_write_X0_takeIn : GoodIn wsX0_write wsX0_takeIn := goodIn_r _ [24, 25, 26, 27, 28, 29, 30, 31, 32, 33] (by decide +kernel) (by decide +kernel)
set_option maxRecDepth 20000 in
theorem gX0_write_X0_takeIn : GoodIn wsX0_write (wsV RX0 37 RX0 yX0_takeIn wsX0_takeIn) := goodIn_app (goodIn_of _ (by decide +kernel)) ggX0_write_X0_takeIn
theorem dX0_write_0 : decode cX0_write 0 = .ok (.aload_n 0, 1) := by decide +kernel
theorem dX0_write_1 : decode cX0_write 1 = .ok (.getfield 22, 3) := by decide +kernel
theorem dX0_write_4 : decode cX0_write 4 = .ok (.istore 5, 2) := by decide +kernel
theorem dX0_write_6 : decode cX0_write 6 = .ok (.aload_n 0, 1) := by decide +kernel
theorem dX0_write_7 : decode cX0_write 7 = .ok (.iload 5, 2) := by decide +kernel
theorem dX0_write_9 : decode cX0_write 9 = .ok (.invokevirtual 26, 3) := by decide +kernel
theorem dX0_write_12 : decode cX0_write 12 = .ok (.iload_n 1, 1) := by decide +kernel
theorem dX0_write_13 : decode cX0_write 13 = .ok (.iload_n 2, 1) := by decide +kernel
theorem dX0_write_14 : decode cX0_write 14 = .ok (.iload_n 3, 1) := by decide +kernel
theorem dX0_write_15 : decode cX0_write 15 = .ok (.iload 4, 2) := by decide +kernel
theorem dX0_write_17 : decode cX0_write 17 = .ok (.invokevirtual 30, 3) := by decide +kernel
theorem dX0_write_20 : decode cX0_write 20 = .ok (.aload_n 0, 1) := by decide +kernel
theorem dX0_write_21 : decode cX0_write 21 = .ok (.dup, 1) := by decide +kernel
theorem dX0_write_22 : decode cX0_write 22 = .ok (.getfield 22, 3) := by decide +kernel
theorem dX0_write_25 : decode cX0_write 25 = .ok (.iconst 1, 1) := by decide +kernel
theorem dX0_write_26 : decode cX0_write 26 = .ok (.iadd, 1) := by decide +kernel
theorem dX0_write_27 : decode cX0_write 27 = .ok (.putfield 22, 3) := by decide +kernel
theorem dX0_write_30 : decode cX0_write 30 = .ok (.aload_n 0, 1) := by decide +kernel
theorem dX0_write_31 : decode cX0_write 31 = .ok (.dup, 1) := by decide +kernel
theorem dX0_write_32 : decode cX0_write 32 = .ok (.getfield 34, 3) := by decide +kernel
theorem dX0_write_35 : decode cX0_write 35 = .ok (.iload 4, 2) := by decide +kernel
theorem dX0_write_37 : decode cX0_write 37 = .ok (.iadd, 1) := by decide +kernel
theorem dX0_write_38 : decode cX0_write 38 = .ok (.putfield 34, 3) := by decide +kernel
theorem dX0_write_41 : decode cX0_write 41 = .ok (.aload_n 0, 1) := by decide +kernel
theorem dX0_write_42 : decode cX0_write 42 = .ok (.iload 4, 2) := by decide +kernel
theorem dX0_write_44 : decode cX0_write 44 = .ok (.invokevirtual 37, 3) := by decide +kernel
theorem dX0_write_47 : decode cX0_write 47 = .ok (.iload 5, 2) := by decide +kernel
theorem dX0_write_49 : decode cX0_write 49 = .ok (.ireturn, 1) := by decide +kernel
theorem dX0_takeIn_0 : decode cX0_takeIn 0 = .ok (.aload_n 0, 1) := by decide +kernel
theorem dX0_takeIn_1 : decode cX0_takeIn 1 = .ok (.getfield 41, 3) := by decide +kernel
theorem dX0_takeIn_4 : decode cX0_takeIn 4 = .ok (.iload_n 1, 1) := by decide +kernel
theorem dX0_takeIn_5 : decode cX0_takeIn 5 = .ok (.iadd, 1) := by decide +kernel
theorem dX0_takeIn_6 : decode cX0_takeIn 6 = .ok (.istore_n 2, 1) := by decide +kernel
theorem dX0_takeIn_7 : decode cX0_takeIn 7 = .ok (.aload_n 0, 1) := by decide +kernel
theorem dX0_takeIn_8 : decode cX0_takeIn 8 = .ok (.iload_n 2, 1) := by decide +kernel
theorem dX0_takeIn_9 : decode cX0_takeIn 9 = .ok (.ldc 44, 2) := by decide +kernel
theorem dX0_takeIn_11 : decode cX0_takeIn 11 = .ok (.if_icmp .le 8, 3) := by decide +kernel
theorem dX0_takeIn_14 : decode cX0_takeIn 14 = .ok (.ldc 44, 2) := by decide +kernel
theorem dX0_takeIn_16 : decode cX0_takeIn 16 = .ok (.goto 4, 3) := by decide +kernel
theorem dX0_takeIn_19 : decode cX0_takeIn 19 = .ok (.iload_n 2, 1) := by decide +kernel
theorem dX0_takeIn_20 : decode cX0_takeIn 20 = .ok (.putfield 41, 3) := by decide +kernel
theorem dX0_takeIn_23 : decode cX0_takeIn 23 = .ok (.return_, 1) := by decide +kernel
theorem dX0_payOut_0 : decode cX0_payOut 0 = .ok (.aload_n 0, 1) := by decide +kernel
theorem dX0_payOut_1 : decode cX0_payOut 1 = .ok (.dup, 1) := by decide +kernel
theorem dX0_payOut_2 : decode cX0_payOut 2 = .ok (.getfield 41, 3) := by decide +kernel
theorem dX0_payOut_5 : decode cX0_payOut 5 = .ok (.iload_n 1, 1) := by decide +kernel
theorem dX0_payOut_6 : decode cX0_payOut 6 = .ok (.isub, 1) := by decide +kernel
theorem dX0_payOut_7 : decode cX0_payOut 7 = .ok (.putfield 41, 3) := by decide +kernel
theorem dX0_payOut_10 : decode cX0_payOut 10 = .ok (.aload_n 0, 1) := by decide +kernel
theorem dX0_payOut_11 : decode cX0_payOut 11 = .ok (.dup, 1) := by decide +kernel
theorem dX0_payOut_12 : decode cX0_payOut 12 = .ok (.getfield 45, 3) := by decide +kernel
theorem dX0_payOut_15 : decode cX0_payOut 15 = .ok (.iload_n 1, 1) := by decide +kernel
theorem dX0_payOut_16 : decode cX0_payOut 16 = .ok (.iadd, 1) := by decide +kernel
theorem dX0_payOut_17 : decode cX0_payOut 17 = .ok (.putfield 45, 3) := by decide +kernel
theorem dX0_payOut_20 : decode cX0_payOut 20 = .ok (.return_, 1) := by decide +kernel
set_option maxRecDepth 20000 in
theorem ggX0_copy_X2_copy : GoodIn wsX0_copy wsX2_copy := goodIn_r _ [11, 12, 13, 14, 15, 16, 17, 18, 26, 27, 28, 29, 30, 31, 32] (by decide +kernel) (by decide +kernel)
set_option maxRecDepth 20000 in
theorem gX0_copy_X2_copy : GoodIn wsX0_copy (wsV RX0 51 RX2 yX2_copy wsX2_copy) := goodIn_app (goodIn_of _ (by decide +kernel)) ggX0_copy_X2_copy
theorem dX0_copy_0 : decode cX0_copy 0 = .ok (.aload_n 0, 1) := by decide +kernel
theorem dX0_copy_1 : decode cX0_copy 1 = .ok (.aload_n 1, 1) := by decide +kernel
theorem dX0_copy_2 : decode cX0_copy 2 = .ok (.getfield 22, 3) := by decide +kernel
theorem dX0_copy_5 : decode cX0_copy 5 = .ok (.putfield 22, 3) := by decide +kernel
theorem dX0_copy_8 : decode cX0_copy 8 = .ok (.aload_n 0, 1) := by decide +kernel
theorem dX0_copy_9 : decode cX0_copy 9 = .ok (.aload_n 1, 1) := by decide +kernel
theorem dX0_copy_10 : decode cX0_copy 10 = .ok (.getfield 41, 3) := by decide +kernel
theorem dX0_copy_13 : decode cX0_copy 13 = .ok (.putfield 41, 3) := by decide +kernel
theorem dX0_copy_16 : decode cX0_copy 16 = .ok (.aload_n 0, 1) := by decide +kernel
theorem dX0_copy_17 : decode cX0_copy 17 = .ok (.aload_n 1, 1) := by decide +kernel
theorem dX0_copy_18 : decode cX0_copy 18 = .ok (.getfield 45, 3) := by decide +kernel
theorem dX0_copy_21 : decode cX0_copy 21 = .ok (.putfield 45, 3) := by decide +kernel
theorem dX0_copy_24 : decode cX0_copy 24 = .ok (.aload_n 0, 1) := by decide +kernel
theorem dX0_copy_25 : decode cX0_copy 25 = .ok (.aload_n 1, 1) := by decide +kernel
theorem dX0_copy_26 : decode cX0_copy 26 = .ok (.getfield 34, 3) := by decide +kernel
theorem dX0_copy_29 : decode cX0_copy 29 = .ok (.putfield 34, 3) := by decide +kernel
theorem dX0_copy_32 : decode cX0_copy 32 = .ok (.aload_n 0, 1) := by decide +kernel
theorem dX0_copy_33 : decode cX0_copy 33 = .ok (.aload_n 1, 1) := by decide +kernel
theorem dX0_copy_34 : decode cX0_copy 34 = .ok (.getfield 48, 3) := by decide +kernel
theorem dX0_copy_37 : decode cX0_copy 37 = .ok (.putfield 48, 3) := by decide +kernel
theorem dX0_copy_40 : decode cX0_copy 40 = .ok (.iconst 0, 1) := by decide +kernel
theorem dX0_copy_41 : decode cX0_copy 41 = .ok (.istore_n 2, 1) := by decide +kernel
theorem dX0_copy_42 : decode cX0_copy 42 = .ok (.iload_n 2, 1) := by decide +kernel
theorem dX0_copy_43 : decode cX0_copy 43 = .ok (.bipush 10, 2) := by decide +kernel
theorem dX0_copy_45 : decode cX0_copy 45 = .ok (.if_icmp .ge 24, 3) := by decide +kernel
theorem dX0_copy_48 : decode cX0_copy 48 = .ok (.aload_n 0, 1) := by decide +kernel
theorem dX0_copy_49 : decode cX0_copy 49 = .ok (.getfield 17, 3) := by decide +kernel
theorem dX0_copy_52 : decode cX0_copy 52 = .ok (.iload_n 2, 1) := by decide +kernel
theorem dX0_copy_53 : decode cX0_copy 53 = .ok (.aaload, 1) := by decide +kernel
theorem dX0_copy_54 : decode cX0_copy 54 = .ok (.aload_n 1, 1) := by decide +kernel
theorem dX0_copy_55 : decode cX0_copy 55 = .ok (.getfield 17, 3) := by decide +kernel
theorem dX0_copy_58 : decode cX0_copy 58 = .ok (.iload_n 2, 1) := by decide +kernel
theorem dX0_copy_59 : decode cX0_copy 59 = .ok (.aaload, 1) := by decide +kernel
theorem dX0_copy_60 : decode cX0_copy 60 = .ok (.invokevirtual 51, 3) := by decide +kernel
theorem dX0_copy_63 : decode cX0_copy 63 = .ok (.iinc 2 1, 3) := by decide +kernel
theorem dX0_copy_66 : decode cX0_copy 66 = .ok (.goto (-24), 3) := by decide +kernel
theorem dX0_copy_69 : decode cX0_copy 69 = .ok (.return_, 1) := by decide +kernel
set_option maxRecDepth 20000 in
theorem ggX0_passYears_X0_passYear : GoodIn wsX0_passYears wsX0_passYear := goodIn_r _ [5, 6, 7, 8, 9, 10, 11, 12, 13, 14, 15, 16, 17, 18, 19, 4, 20, 21, 22, 23, 24, 25, 26, 27, 28, 29, 30, 31, 32, 33, 34, 35, 36, 37, 38, 39, 40, 41, 42, 43, 44, 45, 46, 47, 48, 49, 50, 51, 52, 53, 54, 55, 56, 57, 58, 59, 60, 61, 62] (by decide +kernel) (by decide +kernel)
set_option maxRecDepth 20000 in
theorem gX0_passYears_X0_passYear : GoodIn wsX0_passYears (wsV RX0 55 RX0 yX0_passYear wsX0_passYear) := goodIn_app (goodIn_of _ (by decide +kernel)) ggX0_passYears_X0_passYear
theorem dX0_passYears_0 : decode cX0_passYears 0 = .ok (.iconst 0, 1) := by decide +kernel
theorem dX0_passYears_1 : decode cX0_passYears 1 = .ok (.istore_n 2, 1) := by decide +kernel
theorem dX0_passYears_2 : decode cX0_passYears 2 = .ok (.iload_n 2, 1) := by decide +kernel
theorem dX0_passYears_3 : decode cX0_passYears 3 = .ok (.iload_n 1, 1) := by decide +kernel
theorem dX0_passYears_4 : decode cX0_passYears 4 = .ok (.if_icmp .ge 13, 3) := by decide +kernel
theorem dX0_passYears_7 : decode cX0_passYears 7 = .ok (.aload_n 0, 1) := by decide +kernel
theorem dX0_passYears_8 : decode cX0_passYears 8 = .ok (.invokevirtual 55, 3) := by decide +kernel
theorem dX0_passYears_11 : decode cX0_passYears 11 = .ok (.iinc 2 1, 3) := by decide +kernel
theorem dX0_passYears_14 : decode cX0_passYears 14 = .ok (.goto (-12), 3) := by decide +kernel
theorem dX0_passYears_17 : decode cX0_passYears 17 = .ok (.return_, 1) := by decide +kernel
set_option maxRecDepth 20000 in
theorem ggX0_passYear_X1_rate : GoodIn wsX0_passYear wsX1_rate := goodIn_r _ [10, 11, 50, 51] (by decide +kernel) (by decide +kernel)
set_option maxRecDepth 20000 in
theorem gX0_passYear_X1_rate : GoodIn wsX0_passYear (wsV RX0 58 RX1 yX1_rate wsX1_rate) := goodIn_app (goodIn_of _ (by decide +kernel)) ggX0_passYear_X1_rate
set_option maxRecDepth 20000 in
theorem ggX0_passYear_X0_takeIn : GoodIn wsX0_passYear wsX0_takeIn := goodIn_r _ [16, 1, 17, 43, 44, 45, 46, 47, 48, 49] (by decide +kernel) (by decide +kernel)
set_option maxRecDepth 20000 in
theorem gX0_passYear_X0_takeIn : GoodIn wsX0_passYear (wsV RX0 37 RX0 yX0_takeIn wsX0_takeIn) := goodIn_app (goodIn_of _ (by decide +kernel)) ggX0_passYear_X0_takeIn
set_option maxRecDepth 20000 in
theorem ggX0_passYear_X0_widowAt : GoodIn wsX0_passYear wsX0_widowAt := goodIn_r _ [21, 22, 43, 44, 45, 46, 47, 48, 49] (by decide +kernel) (by decide +kernel)
set_option maxRecDepth 20000 in
theorem gX0_passYear_X0_widowAt : GoodIn wsX0_passYear (wsV RX0 26 RX0 yX0_widowAt wsX0_widowAt) := goodIn_app (goodIn_of _ (by decide +kernel)) ggX0_passYear_X0_widowAt
set_option maxRecDepth 20000 in
theorem ggX0_passYear_X2_lives : GoodIn wsX0_passYear wsX2_lives := goodIn_r _ [27, 28, 52, 53, 54, 55, 56, 57, 58] (by decide +kernel) (by decide +kernel)
set_option maxRecDepth 20000 in
theorem gX0_passYear_X2_lives : GoodIn wsX0_passYear (wsV RX0 66 RX2 yX2_lives wsX2_lives) := goodIn_app (goodIn_of _ (by decide +kernel)) ggX0_passYear_X2_lives
set_option maxRecDepth 20000 in
theorem ggX0_passYear_X2_liveYear : GoodIn wsX0_passYear wsX2_liveYear := goodIn_r _ [32, 33, 34, 35, 36, 37, 28, 52, 53, 54, 55, 56, 57, 58] (by decide +kernel) (by decide +kernel)
set_option maxRecDepth 20000 in
theorem gX0_passYear_X2_liveYear : GoodIn wsX0_passYear (wsV RX0 70 RX2 yX2_liveYear wsX2_liveYear) := goodIn_app (goodIn_of _ (by decide +kernel)) ggX0_passYear_X2_liveYear
set_option maxRecDepth 20000 in
theorem ggX0_passYear_X0_payOut : GoodIn wsX0_passYear wsX0_payOut := goodIn_r _ [41, 1, 42, 43, 44, 45, 46, 47, 48, 49] (by decide +kernel) (by decide +kernel)
set_option maxRecDepth 20000 in
theorem gX0_passYear_X0_payOut : GoodIn wsX0_passYear (wsV RX0 74 RX0 yX0_payOut wsX0_payOut) := goodIn_app (goodIn_of _ (by decide +kernel)) ggX0_passYear_X0_payOut
theorem dX0_passYear_0 : decode cX0_passYear 0 = .ok (.aload_n 0, 1) := by decide +kernel
theorem dX0_passYear_1 : decode cX0_passYear 1 = .ok (.getfield 41, 3) := by decide +kernel
theorem dX0_passYear_4 : decode cX0_passYear 4 = .ok (.ifCond .le 27, 3) := by decide +kernel
theorem dX0_passYear_7 : decode cX0_passYear 7 = .ok (.aload_n 0, 1) := by decide +kernel
theorem dX0_passYear_8 : decode cX0_passYear 8 = .ok (.aload_n 0, 1) := by decide +kernel
theorem dX0_passYear_9 : decode cX0_passYear 9 = .ok (.getfield 41, 3) := by decide +kernel
theorem dX0_passYear_12 : decode cX0_passYear 12 = .ok (.i2l, 1) := by decide +kernel
theorem dX0_passYear_13 : decode cX0_passYear 13 = .ok (.aload_n 0, 1) := by decide +kernel
theorem dX0_passYear_14 : decode cX0_passYear 14 = .ok (.getfield 9, 3) := by decide +kernel
theorem dX0_passYear_17 : decode cX0_passYear 17 = .ok (.iconst 0, 1) := by decide +kernel
theorem dX0_passYear_18 : decode cX0_passYear 18 = .ok (.invokevirtual 58, 3) := by decide +kernel
theorem dX0_passYear_21 : decode cX0_passYear 21 = .ok (.i2l, 1) := by decide +kernel
theorem dX0_passYear_22 : decode cX0_passYear 22 = .ok (.lmul, 1) := by decide +kernel
theorem dX0_passYear_23 : decode cX0_passYear 23 = .ok (.ldc2_w 64, 3) := by decide +kernel
theorem dX0_passYear_26 : decode cX0_passYear 26 = .ok (.ldiv, 1) := by decide +kernel
theorem dX0_passYear_27 : decode cX0_passYear 27 = .ok (.l2i, 1) := by decide +kernel
theorem dX0_passYear_28 : decode cX0_passYear 28 = .ok (.invokevirtual 37, 3) := by decide +kernel
theorem dX0_passYear_31 : decode cX0_passYear 31 = .ok (.iconst 0, 1) := by decide +kernel
theorem dX0_passYear_32 : decode cX0_passYear 32 = .ok (.istore_n 1, 1) := by decide +kernel
theorem dX0_passYear_33 : decode cX0_passYear 33 = .ok (.iload_n 1, 1) := by decide +kernel
theorem dX0_passYear_34 : decode cX0_passYear 34 = .ok (.aload_n 0, 1) := by decide +kernel
theorem dX0_passYear_35 : decode cX0_passYear 35 = .ok (.getfield 22, 3) := by decide +kernel
theorem dX0_passYear_38 : decode cX0_passYear 38 = .ok (.if_icmp .ge 30, 3) := by decide +kernel
theorem dX0_passYear_41 : decode cX0_passYear 41 = .ok (.aload_n 0, 1) := by decide +kernel
theorem dX0_passYear_42 : decode cX0_passYear 42 = .ok (.iload_n 1, 1) := by decide +kernel
theorem dX0_passYear_43 : decode cX0_passYear 43 = .ok (.invokevirtual 26, 3) := by decide +kernel
theorem dX0_passYear_46 : decode cX0_passYear 46 = .ok (.astore_n 2, 1) := by decide +kernel
theorem dX0_passYear_47 : decode cX0_passYear 47 = .ok (.aload_n 2, 1) := by decide +kernel
theorem dX0_passYear_48 : decode cX0_passYear 48 = .ok (.invokevirtual 66, 3) := by decide +kernel
theorem dX0_passYear_51 : decode cX0_passYear 51 = .ok (.ifCond .eq 11, 3) := by decide +kernel
theorem dX0_passYear_54 : decode cX0_passYear 54 = .ok (.aload_n 0, 1) := by decide +kernel
theorem dX0_passYear_55 : decode cX0_passYear 55 = .ok (.aload_n 2, 1) := by decide +kernel
theorem dX0_passYear_56 : decode cX0_passYear 56 = .ok (.invokevirtual 70, 3) := by decide +kernel
theorem dX0_passYear_59 : decode cX0_passYear 59 = .ok (.invokevirtual 74, 3) := by decide +kernel
theorem dX0_passYear_62 : decode cX0_passYear 62 = .ok (.iinc 1 1, 3) := by decide +kernel
theorem dX0_passYear_65 : decode cX0_passYear 65 = .ok (.goto (-32), 3) := by decide +kernel
theorem dX0_passYear_68 : decode cX0_passYear 68 = .ok (.aload_n 0, 1) := by decide +kernel
theorem dX0_passYear_69 : decode cX0_passYear 69 = .ok (.dup, 1) := by decide +kernel
theorem dX0_passYear_70 : decode cX0_passYear 70 = .ok (.getfield 48, 3) := by decide +kernel
theorem dX0_passYear_73 : decode cX0_passYear 73 = .ok (.iconst 1, 1) := by decide +kernel
theorem dX0_passYear_74 : decode cX0_passYear 74 = .ok (.iadd, 1) := by decide +kernel
theorem dX0_passYear_75 : decode cX0_passYear 75 = .ok (.putfield 48, 3) := by decide +kernel
theorem dX0_passYear_78 : decode cX0_passYear 78 = .ok (.return_, 1) := by decide +kernel
set_option maxRecDepth 20000 in
theorem ggX0_tell_X0_living : GoodIn wsX0_tell wsX0_living := goodIn_r _ [11, 2, 12, 13, 14, 10, 15, 16, 17, 18, 19, 20, 21, 22, 59, 60, 61, 62, 63, 64, 65, 66, 67, 68, 69, 70, 71, 72] (by decide +kernel) (by decide +kernel)
set_option maxRecDepth 20000 in
theorem gX0_tell_X0_living : GoodIn wsX0_tell (wsV RX0 77 RX0 yX0_living wsX0_living) := goodIn_app (goodIn_of _ (by decide +kernel)) ggX0_tell_X0_living
set_option maxRecDepth 20000 in
theorem ggX0_tell_X1_rate : GoodIn wsX0_tell wsX1_rate := goodIn_r _ [27, 28, 73, 74] (by decide +kernel) (by decide +kernel)
set_option maxRecDepth 20000 in
theorem gX0_tell_X1_rate : GoodIn wsX0_tell (wsV RX0 58 RX1 yX1_rate wsX1_rate) := goodIn_app (goodIn_of _ (by decide +kernel)) ggX0_tell_X1_rate
set_option maxRecDepth 20000 in
theorem ggX0_tell_X0_keptForAll : GoodIn wsX0_tell wsX0_keptForAll := goodIn_r _ [32, 2, 4, 12, 13, 14, 10, 15, 16, 33, 34, 35, 26, 36, 37, 38, 39, 40, 18, 19, 20, 21, 22, 41, 42, 43, 44, 45, 46, 47, 48, 49, 50, 51, 52, 59, 60, 61, 62, 63, 64, 65, 66, 67, 68, 69, 70, 71, 72, 73, 74] (by decide +kernel) (by decide +kernel)
set_option maxRecDepth 20000 in
theorem gX0_tell_X0_keptForAll : GoodIn wsX0_tell (wsV RX0 80 RX0 yX0_keptForAll wsX0_keptForAll) := goodIn_app (goodIn_of _ (by decide +kernel)) ggX0_tell_X0_keptForAll
set_option maxRecDepth 20000 in
theorem ggX0_tell_X0_sumsDue : GoodIn wsX0_tell wsX0_sumsDue := goodIn_r _ [56, 2, 57, 58, 12, 13, 14, 10, 15, 16, 17, 18, 19, 20, 21, 22, 59, 60, 61, 62, 63, 64, 65, 66, 67, 68, 69, 70, 71, 72] (by decide +kernel) (by decide +kernel)
set_option maxRecDepth 20000 in
theorem gX0_tell_X0_sumsDue : GoodIn wsX0_tell (wsV RX0 83 RX0 yX0_sumsDue wsX0_sumsDue) := goodIn_app (goodIn_of _ (by decide +kernel)) ggX0_tell_X0_sumsDue
theorem dX0_tell_0 : decode cX0_tell 0 = .ok (.iload_n 1, 1) := by decide +kernel
theorem dX0_tell_1 : decode cX0_tell 1 = .ok (.tableswitch 108 0 7 #[47, 52, 57, 62, 67, 80, 98, 103], 47) := by decide +kernel
theorem dX0_tell_48 : decode cX0_tell 48 = .ok (.aload_n 0, 1) := by decide +kernel
theorem dX0_tell_49 : decode cX0_tell 49 = .ok (.getfield 48, 3) := by decide +kernel
theorem dX0_tell_52 : decode cX0_tell 52 = .ok (.ireturn, 1) := by decide +kernel
theorem dX0_tell_53 : decode cX0_tell 53 = .ok (.aload_n 0, 1) := by decide +kernel
theorem dX0_tell_54 : decode cX0_tell 54 = .ok (.getfield 22, 3) := by decide +kernel
theorem dX0_tell_57 : decode cX0_tell 57 = .ok (.ireturn, 1) := by decide +kernel
theorem dX0_tell_58 : decode cX0_tell 58 = .ok (.aload_n 0, 1) := by decide +kernel
theorem dX0_tell_59 : decode cX0_tell 59 = .ok (.invokevirtual 77, 3) := by decide +kernel
theorem dX0_tell_62 : decode cX0_tell 62 = .ok (.ireturn, 1) := by decide +kernel
theorem dX0_tell_63 : decode cX0_tell 63 = .ok (.aload_n 0, 1) := by decide +kernel
theorem dX0_tell_64 : decode cX0_tell 64 = .ok (.getfield 41, 3) := by decide +kernel
theorem dX0_tell_67 : decode cX0_tell 67 = .ok (.ireturn, 1) := by decide +kernel
theorem dX0_tell_68 : decode cX0_tell 68 = .ok (.aload_n 0, 1) := by decide +kernel
theorem dX0_tell_69 : decode cX0_tell 69 = .ok (.aload_n 0, 1) := by decide +kernel
theorem dX0_tell_70 : decode cX0_tell 70 = .ok (.getfield 9, 3) := by decide +kernel
theorem dX0_tell_73 : decode cX0_tell 73 = .ok (.iconst 0, 1) := by decide +kernel
theorem dX0_tell_74 : decode cX0_tell 74 = .ok (.invokevirtual 58, 3) := by decide +kernel
theorem dX0_tell_77 : decode cX0_tell 77 = .ok (.invokevirtual 80, 3) := by decide +kernel
theorem dX0_tell_80 : decode cX0_tell 80 = .ok (.ireturn, 1) := by decide +kernel
theorem dX0_tell_81 : decode cX0_tell 81 = .ok (.aload_n 0, 1) := by decide +kernel
theorem dX0_tell_82 : decode cX0_tell 82 = .ok (.getfield 41, 3) := by decide +kernel
theorem dX0_tell_85 : decode cX0_tell 85 = .ok (.aload_n 0, 1) := by decide +kernel
theorem dX0_tell_86 : decode cX0_tell 86 = .ok (.aload_n 0, 1) := by decide +kernel
theorem dX0_tell_87 : decode cX0_tell 87 = .ok (.getfield 9, 3) := by decide +kernel
theorem dX0_tell_90 : decode cX0_tell 90 = .ok (.iconst 0, 1) := by decide +kernel
theorem dX0_tell_91 : decode cX0_tell 91 = .ok (.invokevirtual 58, 3) := by decide +kernel
theorem dX0_tell_94 : decode cX0_tell 94 = .ok (.invokevirtual 80, 3) := by decide +kernel
theorem dX0_tell_97 : decode cX0_tell 97 = .ok (.isub, 1) := by decide +kernel
theorem dX0_tell_98 : decode cX0_tell 98 = .ok (.ireturn, 1) := by decide +kernel
theorem dX0_tell_99 : decode cX0_tell 99 = .ok (.aload_n 0, 1) := by decide +kernel
theorem dX0_tell_100 : decode cX0_tell 100 = .ok (.invokevirtual 83, 3) := by decide +kernel
theorem dX0_tell_103 : decode cX0_tell 103 = .ok (.ireturn, 1) := by decide +kernel
theorem dX0_tell_104 : decode cX0_tell 104 = .ok (.aload_n 0, 1) := by decide +kernel
theorem dX0_tell_105 : decode cX0_tell 105 = .ok (.getfield 45, 3) := by decide +kernel
theorem dX0_tell_108 : decode cX0_tell 108 = .ok (.ireturn, 1) := by decide +kernel
theorem dX0_tell_109 : decode cX0_tell 109 = .ok (.aload_n 0, 1) := by decide +kernel
theorem dX0_tell_110 : decode cX0_tell 110 = .ok (.getfield 34, 3) := by decide +kernel
theorem dX0_tell_113 : decode cX0_tell 113 = .ok (.ireturn, 1) := by decide +kernel
set_option maxRecDepth 20000 in
theorem ggX0_keptForAll_X0_widowAt : GoodIn wsX0_keptForAll wsX0_widowAt := goodIn_r _ [7, 8, 35, 36, 37, 38, 39, 40, 41] (by decide +kernel) (by decide +kernel)
set_option maxRecDepth 20000 in
theorem gX0_keptForAll_X0_widowAt : GoodIn wsX0_keptForAll (wsV RX0 26 RX0 yX0_widowAt wsX0_widowAt) := goodIn_app (goodIn_of _ (by decide +kernel)) ggX0_keptForAll_X0_widowAt
set_option maxRecDepth 20000 in
theorem ggX0_keptForAll_X1_keptWith : GoodIn wsX0_keptForAll wsX1_keptWith := goodIn_r _ [13, 14, 15, 16, 17, 18, 19, 20, 21, 22, 23, 24, 25, 12, 26, 27, 28, 29, 30, 31, 32, 33, 34, 42, 43, 44, 45, 46, 47, 48, 49, 50] (by decide +kernel) (by decide +kernel)
set_option maxRecDepth 20000 in
theorem gX0_keptForAll_X1_keptWith : GoodIn wsX0_keptForAll (wsV RX0 86 RX1 yX1_keptWith wsX1_keptWith) := goodIn_app (goodIn_of _ (by decide +kernel)) ggX0_keptForAll_X1_keptWith
theorem dX0_keptForAll_0 : decode cX0_keptForAll 0 = .ok (.iconst 0, 1) := by decide +kernel
theorem dX0_keptForAll_1 : decode cX0_keptForAll 1 = .ok (.istore_n 2, 1) := by decide +kernel
theorem dX0_keptForAll_2 : decode cX0_keptForAll 2 = .ok (.iconst 0, 1) := by decide +kernel
theorem dX0_keptForAll_3 : decode cX0_keptForAll 3 = .ok (.istore_n 3, 1) := by decide +kernel
theorem dX0_keptForAll_4 : decode cX0_keptForAll 4 = .ok (.iload_n 3, 1) := by decide +kernel
theorem dX0_keptForAll_5 : decode cX0_keptForAll 5 = .ok (.aload_n 0, 1) := by decide +kernel
theorem dX0_keptForAll_6 : decode cX0_keptForAll 6 = .ok (.getfield 22, 3) := by decide +kernel
theorem dX0_keptForAll_9 : decode cX0_keptForAll 9 = .ok (.if_icmp .ge 25, 3) := by decide +kernel
theorem dX0_keptForAll_12 : decode cX0_keptForAll 12 = .ok (.iload_n 2, 1) := by decide +kernel
theorem dX0_keptForAll_13 : decode cX0_keptForAll 13 = .ok (.aload_n 0, 1) := by decide +kernel
theorem dX0_keptForAll_14 : decode cX0_keptForAll 14 = .ok (.getfield 9, 3) := by decide +kernel
theorem dX0_keptForAll_17 : decode cX0_keptForAll 17 = .ok (.aload_n 0, 1) := by decide +kernel
theorem dX0_keptForAll_18 : decode cX0_keptForAll 18 = .ok (.iload_n 3, 1) := by decide +kernel
theorem dX0_keptForAll_19 : decode cX0_keptForAll 19 = .ok (.invokevirtual 26, 3) := by decide +kernel
theorem dX0_keptForAll_22 : decode cX0_keptForAll 22 = .ok (.iload_n 1, 1) := by decide +kernel
theorem dX0_keptForAll_23 : decode cX0_keptForAll 23 = .ok (.invokevirtual 86, 3) := by decide +kernel
theorem dX0_keptForAll_26 : decode cX0_keptForAll 26 = .ok (.iadd, 1) := by decide +kernel
theorem dX0_keptForAll_27 : decode cX0_keptForAll 27 = .ok (.istore_n 2, 1) := by decide +kernel
theorem dX0_keptForAll_28 : decode cX0_keptForAll 28 = .ok (.iinc 3 1, 3) := by decide +kernel
theorem dX0_keptForAll_31 : decode cX0_keptForAll 31 = .ok (.goto (-27), 3) := by decide +kernel
theorem dX0_keptForAll_34 : decode cX0_keptForAll 34 = .ok (.iload_n 2, 1) := by decide +kernel
theorem dX0_keptForAll_35 : decode cX0_keptForAll 35 = .ok (.ireturn, 1) := by decide +kernel
set_option maxRecDepth 20000 in
theorem ggX0_living_X0_widowAt : GoodIn wsX0_living wsX0_widowAt := goodIn_r _ [6, 7, 14, 15, 16, 17, 18, 19, 20] (by decide +kernel) (by decide +kernel)
set_option maxRecDepth 20000 in
theorem gX0_living_X0_widowAt : GoodIn wsX0_living (wsV RX0 26 RX0 yX0_widowAt wsX0_widowAt) := goodIn_app (goodIn_of _ (by decide +kernel)) ggX0_living_X0_widowAt
set_option maxRecDepth 20000 in
theorem ggX0_living_X2_lives : GoodIn wsX0_living wsX2_lives := goodIn_r _ [12, 13, 21, 22, 23, 24, 25, 26, 27] (by decide +kernel) (by decide +kernel)
set_option maxRecDepth 20000 in
theorem gX0_living_X2_lives : GoodIn wsX0_living (wsV RX0 66 RX2 yX2_lives wsX2_lives) := goodIn_app (goodIn_of _ (by decide +kernel)) ggX0_living_X2_lives
theorem dX0_living_0 : decode cX0_living 0 = .ok (.iconst 0, 1) := by decide +kernel
theorem dX0_living_1 : decode cX0_living 1 = .ok (.istore_n 1, 1) := by decide +kernel
theorem dX0_living_2 : decode cX0_living 2 = .ok (.iconst 0, 1) := by decide +kernel
theorem dX0_living_3 : decode cX0_living 3 = .ok (.istore_n 2, 1) := by decide +kernel
theorem dX0_living_4 : decode cX0_living 4 = .ok (.iload_n 2, 1) := by decide +kernel
theorem dX0_living_5 : decode cX0_living 5 = .ok (.aload_n 0, 1) := by decide +kernel
theorem dX0_living_6 : decode cX0_living 6 = .ok (.getfield 22, 3) := by decide +kernel
theorem dX0_living_9 : decode cX0_living 9 = .ok (.if_icmp .ge 23, 3) := by decide +kernel
theorem dX0_living_12 : decode cX0_living 12 = .ok (.aload_n 0, 1) := by decide +kernel
theorem dX0_living_13 : decode cX0_living 13 = .ok (.iload_n 2, 1) := by decide +kernel
theorem dX0_living_14 : decode cX0_living 14 = .ok (.invokevirtual 26, 3) := by decide +kernel
theorem dX0_living_17 : decode cX0_living 17 = .ok (.invokevirtual 66, 3) := by decide +kernel
theorem dX0_living_20 : decode cX0_living 20 = .ok (.ifCond .eq 6, 3) := by decide +kernel
theorem dX0_living_23 : decode cX0_living 23 = .ok (.iinc 1 1, 3) := by decide +kernel
theorem dX0_living_26 : decode cX0_living 26 = .ok (.iinc 2 1, 3) := by decide +kernel
theorem dX0_living_29 : decode cX0_living 29 = .ok (.goto (-25), 3) := by decide +kernel
theorem dX0_living_32 : decode cX0_living 32 = .ok (.iload_n 1, 1) := by decide +kernel
theorem dX0_living_33 : decode cX0_living 33 = .ok (.ireturn, 1) := by decide +kernel
set_option maxRecDepth 20000 in
theorem ggX0_agesOfLiving_X0_widowAt : GoodIn wsX0_agesOfLiving wsX0_widowAt := goodIn_r _ [7, 8, 15, 16, 17, 18, 19, 20, 21] (by decide +kernel) (by decide +kernel)
set_option maxRecDepth 20000 in
theorem gX0_agesOfLiving_X0_widowAt : GoodIn wsX0_agesOfLiving (wsV RX0 26 RX0 yX0_widowAt wsX0_widowAt) := goodIn_app (goodIn_of _ (by decide +kernel)) ggX0_agesOfLiving_X0_widowAt
set_option maxRecDepth 20000 in
theorem ggX0_agesOfLiving_X2_lives : GoodIn wsX0_agesOfLiving wsX2_lives := goodIn_r _ [13, 14, 22, 23, 24, 25, 26, 27, 28] (by decide +kernel) (by decide +kernel)
set_option maxRecDepth 20000 in
theorem gX0_agesOfLiving_X2_lives : GoodIn wsX0_agesOfLiving (wsV RX0 66 RX2 yX2_lives wsX2_lives) := goodIn_app (goodIn_of _ (by decide +kernel)) ggX0_agesOfLiving_X2_lives
theorem dX0_agesOfLiving_0 : decode cX0_agesOfLiving 0 = .ok (.iconst 0, 1) := by decide +kernel
theorem dX0_agesOfLiving_1 : decode cX0_agesOfLiving 1 = .ok (.istore_n 1, 1) := by decide +kernel
theorem dX0_agesOfLiving_2 : decode cX0_agesOfLiving 2 = .ok (.iconst 0, 1) := by decide +kernel
theorem dX0_agesOfLiving_3 : decode cX0_agesOfLiving 3 = .ok (.istore_n 2, 1) := by decide +kernel
theorem dX0_agesOfLiving_4 : decode cX0_agesOfLiving 4 = .ok (.iload_n 2, 1) := by decide +kernel
theorem dX0_agesOfLiving_5 : decode cX0_agesOfLiving 5 = .ok (.aload_n 0, 1) := by decide +kernel
theorem dX0_agesOfLiving_6 : decode cX0_agesOfLiving 6 = .ok (.getfield 22, 3) := by decide +kernel
theorem dX0_agesOfLiving_9 : decode cX0_agesOfLiving 9 = .ok (.if_icmp .ge 29, 3) := by decide +kernel
theorem dX0_agesOfLiving_12 : decode cX0_agesOfLiving 12 = .ok (.aload_n 0, 1) := by decide +kernel
theorem dX0_agesOfLiving_13 : decode cX0_agesOfLiving 13 = .ok (.iload_n 2, 1) := by decide +kernel
theorem dX0_agesOfLiving_14 : decode cX0_agesOfLiving 14 = .ok (.invokevirtual 26, 3) := by decide +kernel
theorem dX0_agesOfLiving_17 : decode cX0_agesOfLiving 17 = .ok (.astore_n 3, 1) := by decide +kernel
theorem dX0_agesOfLiving_18 : decode cX0_agesOfLiving 18 = .ok (.aload_n 3, 1) := by decide +kernel
theorem dX0_agesOfLiving_19 : decode cX0_agesOfLiving 19 = .ok (.invokevirtual 66, 3) := by decide +kernel
theorem dX0_agesOfLiving_22 : decode cX0_agesOfLiving 22 = .ok (.ifCond .eq 10, 3) := by decide +kernel
theorem dX0_agesOfLiving_25 : decode cX0_agesOfLiving 25 = .ok (.iload_n 1, 1) := by decide +kernel
theorem dX0_agesOfLiving_26 : decode cX0_agesOfLiving 26 = .ok (.aload_n 3, 1) := by decide +kernel
theorem dX0_agesOfLiving_27 : decode cX0_agesOfLiving 27 = .ok (.getfield 90, 3) := by decide +kernel
theorem dX0_agesOfLiving_30 : decode cX0_agesOfLiving 30 = .ok (.iadd, 1) := by decide +kernel
theorem dX0_agesOfLiving_31 : decode cX0_agesOfLiving 31 = .ok (.istore_n 1, 1) := by decide +kernel
theorem dX0_agesOfLiving_32 : decode cX0_agesOfLiving 32 = .ok (.iinc 2 1, 3) := by decide +kernel
theorem dX0_agesOfLiving_35 : decode cX0_agesOfLiving 35 = .ok (.goto (-31), 3) := by decide +kernel
theorem dX0_agesOfLiving_38 : decode cX0_agesOfLiving 38 = .ok (.iload_n 1, 1) := by decide +kernel
theorem dX0_agesOfLiving_39 : decode cX0_agesOfLiving 39 = .ok (.ireturn, 1) := by decide +kernel
set_option maxRecDepth 20000 in
theorem ggX0_sumsDue_X0_widowAt : GoodIn wsX0_sumsDue wsX0_widowAt := goodIn_r _ [8, 9, 16, 17, 18, 19, 20, 21, 22] (by decide +kernel) (by decide +kernel)
set_option maxRecDepth 20000 in
theorem gX0_sumsDue_X0_widowAt : GoodIn wsX0_sumsDue (wsV RX0 26 RX0 yX0_widowAt wsX0_widowAt) := goodIn_app (goodIn_of _ (by decide +kernel)) ggX0_sumsDue_X0_widowAt
set_option maxRecDepth 20000 in
theorem ggX0_sumsDue_X2_lives : GoodIn wsX0_sumsDue wsX2_lives := goodIn_r _ [14, 15, 23, 24, 25, 26, 27, 28, 29] (by decide +kernel) (by decide +kernel)
set_option maxRecDepth 20000 in
theorem gX0_sumsDue_X2_lives : GoodIn wsX0_sumsDue (wsV RX0 66 RX2 yX2_lives wsX2_lives) := goodIn_app (goodIn_of _ (by decide +kernel)) ggX0_sumsDue_X2_lives
theorem dX0_sumsDue_0 : decode cX0_sumsDue 0 = .ok (.iconst 0, 1) := by decide +kernel
theorem dX0_sumsDue_1 : decode cX0_sumsDue 1 = .ok (.istore_n 1, 1) := by decide +kernel
theorem dX0_sumsDue_2 : decode cX0_sumsDue 2 = .ok (.iconst 0, 1) := by decide +kernel
theorem dX0_sumsDue_3 : decode cX0_sumsDue 3 = .ok (.istore_n 2, 1) := by decide +kernel
theorem dX0_sumsDue_4 : decode cX0_sumsDue 4 = .ok (.iload_n 2, 1) := by decide +kernel
theorem dX0_sumsDue_5 : decode cX0_sumsDue 5 = .ok (.aload_n 0, 1) := by decide +kernel
theorem dX0_sumsDue_6 : decode cX0_sumsDue 6 = .ok (.getfield 22, 3) := by decide +kernel
theorem dX0_sumsDue_9 : decode cX0_sumsDue 9 = .ok (.if_icmp .ge 36, 3) := by decide +kernel
theorem dX0_sumsDue_12 : decode cX0_sumsDue 12 = .ok (.aload_n 0, 1) := by decide +kernel
theorem dX0_sumsDue_13 : decode cX0_sumsDue 13 = .ok (.iload_n 2, 1) := by decide +kernel
theorem dX0_sumsDue_14 : decode cX0_sumsDue 14 = .ok (.invokevirtual 26, 3) := by decide +kernel
theorem dX0_sumsDue_17 : decode cX0_sumsDue 17 = .ok (.astore_n 3, 1) := by decide +kernel
theorem dX0_sumsDue_18 : decode cX0_sumsDue 18 = .ok (.aload_n 3, 1) := by decide +kernel
theorem dX0_sumsDue_19 : decode cX0_sumsDue 19 = .ok (.invokevirtual 66, 3) := by decide +kernel
theorem dX0_sumsDue_22 : decode cX0_sumsDue 22 = .ok (.ifCond .eq 17, 3) := by decide +kernel
theorem dX0_sumsDue_25 : decode cX0_sumsDue 25 = .ok (.aload_n 3, 1) := by decide +kernel
theorem dX0_sumsDue_26 : decode cX0_sumsDue 26 = .ok (.getfield 93, 3) := by decide +kernel
theorem dX0_sumsDue_29 : decode cX0_sumsDue 29 = .ok (.ifCond .ne 10, 3) := by decide +kernel
theorem dX0_sumsDue_32 : decode cX0_sumsDue 32 = .ok (.iload_n 1, 1) := by decide +kernel
theorem dX0_sumsDue_33 : decode cX0_sumsDue 33 = .ok (.aload_n 3, 1) := by decide +kernel
theorem dX0_sumsDue_34 : decode cX0_sumsDue 34 = .ok (.getfield 96, 3) := by decide +kernel
theorem dX0_sumsDue_37 : decode cX0_sumsDue 37 = .ok (.iadd, 1) := by decide +kernel
theorem dX0_sumsDue_38 : decode cX0_sumsDue 38 = .ok (.istore_n 1, 1) := by decide +kernel
theorem dX0_sumsDue_39 : decode cX0_sumsDue 39 = .ok (.iinc 2 1, 3) := by decide +kernel
theorem dX0_sumsDue_42 : decode cX0_sumsDue 42 = .ok (.goto (-38), 3) := by decide +kernel
theorem dX0_sumsDue_45 : decode cX0_sumsDue 45 = .ok (.iload_n 1, 1) := by decide +kernel
theorem dX0_sumsDue_46 : decode cX0_sumsDue 46 = .ok (.ireturn, 1) := by decide +kernel
theorem dX1_init_0 : decode cX1_init 0 = .ok (.aload_n 0, 1) := by decide +kernel
theorem dX1_init_1 : decode cX1_init 1 = .ok (.invokespecial 3, 3) := by decide +kernel
theorem dX1_init_4 : decode cX1_init 4 = .ok (.aload_n 0, 1) := by decide +kernel
theorem dX1_init_5 : decode cX1_init 5 = .ok (.bipush 50, 2) := by decide +kernel
theorem dX1_init_7 : decode cX1_init 7 = .ok (.newarray .int, 2) := by decide +kernel
theorem dX1_init_9 : decode cX1_init 9 = .ok (.putfield 9, 3) := by decide +kernel
theorem dX1_init_12 : decode cX1_init 12 = .ok (.iconst 0, 1) := by decide +kernel
theorem dX1_init_13 : decode cX1_init 13 = .ok (.istore_n 1, 1) := by decide +kernel
theorem dX1_init_14 : decode cX1_init 14 = .ok (.iload_n 1, 1) := by decide +kernel
theorem dX1_init_15 : decode cX1_init 15 = .ok (.bipush 50, 2) := by decide +kernel
theorem dX1_init_17 : decode cX1_init 17 = .ok (.if_icmp .ge 22, 3) := by decide +kernel
theorem dX1_init_20 : decode cX1_init 20 = .ok (.aload_n 0, 1) := by decide +kernel
theorem dX1_init_21 : decode cX1_init 21 = .ok (.getfield 9, 3) := by decide +kernel
theorem dX1_init_24 : decode cX1_init 24 = .ok (.iload_n 1, 1) := by decide +kernel
theorem dX1_init_25 : decode cX1_init 25 = .ok (.bipush 10, 2) := by decide +kernel
theorem dX1_init_27 : decode cX1_init 27 = .ok (.bipush 8, 2) := by decide +kernel
theorem dX1_init_29 : decode cX1_init 29 = .ok (.iload_n 1, 1) := by decide +kernel
theorem dX1_init_30 : decode cX1_init 30 = .ok (.imul, 1) := by decide +kernel
theorem dX1_init_31 : decode cX1_init 31 = .ok (.iadd, 1) := by decide +kernel
theorem dX1_init_32 : decode cX1_init 32 = .ok (.iastore, 1) := by decide +kernel
theorem dX1_init_33 : decode cX1_init 33 = .ok (.iinc 1 1, 3) := by decide +kernel
theorem dX1_init_36 : decode cX1_init 36 = .ok (.goto (-22), 3) := by decide +kernel
theorem dX1_init_39 : decode cX1_init 39 = .ok (.aload_n 0, 1) := by decide +kernel
theorem dX1_init_40 : decode cX1_init 40 = .ok (.iconst 3, 1) := by decide +kernel
theorem dX1_init_41 : decode cX1_init 41 = .ok (.newarray .int, 2) := by decide +kernel
theorem dX1_init_43 : decode cX1_init 43 = .ok (.putfield 15, 3) := by decide +kernel
theorem dX1_init_46 : decode cX1_init 46 = .ok (.aload_n 0, 1) := by decide +kernel
theorem dX1_init_47 : decode cX1_init 47 = .ok (.getfield 15, 3) := by decide +kernel
theorem dX1_init_50 : decode cX1_init 50 = .ok (.iconst 0, 1) := by decide +kernel
theorem dX1_init_51 : decode cX1_init 51 = .ok (.bipush 40, 2) := by decide +kernel
theorem dX1_init_53 : decode cX1_init 53 = .ok (.iastore, 1) := by decide +kernel
theorem dX1_init_54 : decode cX1_init 54 = .ok (.aload_n 0, 1) := by decide +kernel
theorem dX1_init_55 : decode cX1_init 55 = .ok (.getfield 15, 3) := by decide +kernel
theorem dX1_init_58 : decode cX1_init 58 = .ok (.iconst 1, 1) := by decide +kernel
theorem dX1_init_59 : decode cX1_init 59 = .ok (.iconst 5, 1) := by decide +kernel
theorem dX1_init_60 : decode cX1_init 60 = .ok (.iastore, 1) := by decide +kernel
theorem dX1_init_61 : decode cX1_init 61 = .ok (.aload_n 0, 1) := by decide +kernel
theorem dX1_init_62 : decode cX1_init 62 = .ok (.getfield 15, 3) := by decide +kernel
theorem dX1_init_65 : decode cX1_init 65 = .ok (.iconst 2, 1) := by decide +kernel
theorem dX1_init_66 : decode cX1_init 66 = .ok (.bipush 10, 2) := by decide +kernel
theorem dX1_init_68 : decode cX1_init 68 = .ok (.iastore, 1) := by decide +kernel
theorem dX1_init_69 : decode cX1_init 69 = .ok (.return_, 1) := by decide +kernel
set_option maxRecDepth 20000 in
theorem ggX1_deathsAt_X3_isAge : GoodIn wsX1_deathsAt wsX3_isAge := goodIn_r _ [4] (by decide +kernel) (by decide +kernel)
set_option maxRecDepth 20000 in
theorem gX1_deathsAt_X3_isAge_n18 : GoodIn wsX1_deathsAt (wsX3_isAge) := ggX1_deathsAt_X3_isAge
theorem dX1_deathsAt_0 : decode cX1_deathsAt 0 = .ok (.iload_n 1, 1) := by decide +kernel
theorem dX1_deathsAt_1 : decode cX1_deathsAt 1 = .ok (.invokestatic 18, 3) := by decide +kernel
theorem dX1_deathsAt_4 : decode cX1_deathsAt 4 = .ok (.ifCond .eq 15, 3) := by decide +kernel
theorem dX1_deathsAt_7 : decode cX1_deathsAt 7 = .ok (.aload_n 0, 1) := by decide +kernel
theorem dX1_deathsAt_8 : decode cX1_deathsAt 8 = .ok (.getfield 9, 3) := by decide +kernel
theorem dX1_deathsAt_11 : decode cX1_deathsAt 11 = .ok (.iload_n 1, 1) := by decide +kernel
theorem dX1_deathsAt_12 : decode cX1_deathsAt 12 = .ok (.bipush 50, 2) := by decide +kernel
theorem dX1_deathsAt_14 : decode cX1_deathsAt 14 = .ok (.isub, 1) := by decide +kernel
theorem dX1_deathsAt_15 : decode cX1_deathsAt 15 = .ok (.iaload, 1) := by decide +kernel
theorem dX1_deathsAt_16 : decode cX1_deathsAt 16 = .ok (.goto 6, 3) := by decide +kernel
theorem dX1_deathsAt_19 : decode cX1_deathsAt 19 = .ok (.sipush 1000, 3) := by decide +kernel
theorem dX1_deathsAt_22 : decode cX1_deathsAt 22 = .ok (.ireturn, 1) := by decide +kernel
set_option maxRecDepth 20000 in
theorem ggX1_changeDeaths_X3_isAge : GoodIn wsX1_changeDeaths wsX3_isAge := goodIn_r _ [4] (by decide +kernel) (by decide +kernel)
set_option maxRecDepth 20000 in
theorem gX1_changeDeaths_X3_isAge_n18 : GoodIn wsX1_changeDeaths (wsX3_isAge) := ggX1_changeDeaths_X3_isAge
theorem dX1_changeDeaths_0 : decode cX1_changeDeaths 0 = .ok (.iload_n 1, 1) := by decide +kernel
theorem dX1_changeDeaths_1 : decode cX1_changeDeaths 1 = .ok (.invokestatic 18, 3) := by decide +kernel
theorem dX1_changeDeaths_4 : decode cX1_changeDeaths 4 = .ok (.ifCond .eq 13, 3) := by decide +kernel
theorem dX1_changeDeaths_7 : decode cX1_changeDeaths 7 = .ok (.aload_n 0, 1) := by decide +kernel
theorem dX1_changeDeaths_8 : decode cX1_changeDeaths 8 = .ok (.getfield 9, 3) := by decide +kernel
theorem dX1_changeDeaths_11 : decode cX1_changeDeaths 11 = .ok (.iload_n 1, 1) := by decide +kernel
theorem dX1_changeDeaths_12 : decode cX1_changeDeaths 12 = .ok (.bipush 50, 2) := by decide +kernel
theorem dX1_changeDeaths_14 : decode cX1_changeDeaths 14 = .ok (.isub, 1) := by decide +kernel
theorem dX1_changeDeaths_15 : decode cX1_changeDeaths 15 = .ok (.iload_n 2, 1) := by decide +kernel
theorem dX1_changeDeaths_16 : decode cX1_changeDeaths 16 = .ok (.iastore, 1) := by decide +kernel
theorem dX1_changeDeaths_17 : decode cX1_changeDeaths 17 = .ok (.return_, 1) := by decide +kernel
theorem dX1_rate_0 : decode cX1_rate 0 = .ok (.iload_n 1, 1) := by decide +kernel
theorem dX1_rate_1 : decode cX1_rate 1 = .ok (.ifCond .lt 17, 3) := by decide +kernel
theorem dX1_rate_4 : decode cX1_rate 4 = .ok (.iload_n 1, 1) := by decide +kernel
theorem dX1_rate_5 : decode cX1_rate 5 = .ok (.iconst 3, 1) := by decide +kernel
theorem dX1_rate_6 : decode cX1_rate 6 = .ok (.if_icmp .ge 12, 3) := by decide +kernel
theorem dX1_rate_9 : decode cX1_rate 9 = .ok (.aload_n 0, 1) := by decide +kernel
theorem dX1_rate_10 : decode cX1_rate 10 = .ok (.getfield 15, 3) := by decide +kernel
theorem dX1_rate_13 : decode cX1_rate 13 = .ok (.iload_n 1, 1) := by decide +kernel
theorem dX1_rate_14 : decode cX1_rate 14 = .ok (.iaload, 1) := by decide +kernel
theorem dX1_rate_15 : decode cX1_rate 15 = .ok (.goto 4, 3) := by decide +kernel
theorem dX1_rate_18 : decode cX1_rate 18 = .ok (.iconst 0, 1) := by decide +kernel
theorem dX1_rate_19 : decode cX1_rate 19 = .ok (.ireturn, 1) := by decide +kernel
theorem dX1_changeRate_0 : decode cX1_changeRate 0 = .ok (.iload_n 1, 1) := by decide +kernel
theorem dX1_changeRate_1 : decode cX1_changeRate 1 = .ok (.ifCond .lt 15, 3) := by decide +kernel
theorem dX1_changeRate_4 : decode cX1_changeRate 4 = .ok (.iload_n 1, 1) := by decide +kernel
theorem dX1_changeRate_5 : decode cX1_changeRate 5 = .ok (.iconst 3, 1) := by decide +kernel
theorem dX1_changeRate_6 : decode cX1_changeRate 6 = .ok (.if_icmp .ge 10, 3) := by decide +kernel
theorem dX1_changeRate_9 : decode cX1_changeRate 9 = .ok (.aload_n 0, 1) := by decide +kernel
theorem dX1_changeRate_10 : decode cX1_changeRate 10 = .ok (.getfield 15, 3) := by decide +kernel
theorem dX1_changeRate_13 : decode cX1_changeRate 13 = .ok (.iload_n 1, 1) := by decide +kernel
theorem dX1_changeRate_14 : decode cX1_changeRate 14 = .ok (.iload_n 2, 1) := by decide +kernel
theorem dX1_changeRate_15 : decode cX1_changeRate 15 = .ok (.iastore, 1) := by decide +kernel
theorem dX1_changeRate_16 : decode cX1_changeRate 16 = .ok (.return_, 1) := by decide +kernel
set_option maxRecDepth 20000 in
theorem ggX1_worthNow_X1_worthWith : GoodIn wsX1_worthNow wsX1_worthWith := goodIn_r _ [6, 7, 8, 9, 5, 10, 11, 12, 13, 14, 15, 16] (by decide +kernel) (by decide +kernel)
set_option maxRecDepth 20000 in
theorem gX1_worthNow_X1_worthWith : GoodIn wsX1_worthNow (wsV RX1 22 RX1 yX1_worthWith wsX1_worthWith) := goodIn_app (goodIn_of _ (by decide +kernel)) ggX1_worthNow_X1_worthWith
theorem dX1_worthNow_0 : decode cX1_worthNow 0 = .ok (.aload_n 0, 1) := by decide +kernel
theorem dX1_worthNow_1 : decode cX1_worthNow 1 = .ok (.iload_n 1, 1) := by decide +kernel
theorem dX1_worthNow_2 : decode cX1_worthNow 2 = .ok (.iload_n 2, 1) := by decide +kernel
theorem dX1_worthNow_3 : decode cX1_worthNow 3 = .ok (.aload_n 0, 1) := by decide +kernel
theorem dX1_worthNow_4 : decode cX1_worthNow 4 = .ok (.getfield 15, 3) := by decide +kernel
theorem dX1_worthNow_7 : decode cX1_worthNow 7 = .ok (.iconst 0, 1) := by decide +kernel
theorem dX1_worthNow_8 : decode cX1_worthNow 8 = .ok (.iaload, 1) := by decide +kernel
theorem dX1_worthNow_9 : decode cX1_worthNow 9 = .ok (.invokevirtual 22, 3) := by decide +kernel
theorem dX1_worthNow_12 : decode cX1_worthNow 12 = .ok (.ireturn, 1) := by decide +kernel
set_option maxRecDepth 20000 in
theorem ggX1_worthWith_X1_deathsAt : GoodIn wsX1_worthWith wsX1_deathsAt := goodIn_r _ [5, 6, 7, 8, 9, 10, 11] (by decide +kernel) (by decide +kernel)
set_option maxRecDepth 20000 in
theorem gX1_worthWith_X1_deathsAt : GoodIn wsX1_worthWith (wsV RX1 26 RX1 yX1_deathsAt wsX1_deathsAt) := goodIn_app (goodIn_of _ (by decide +kernel)) ggX1_worthWith_X1_deathsAt
theorem dX1_worthWith_0 : decode cX1_worthWith 0 = .ok (.iload_n 1, 1) := by decide +kernel
theorem dX1_worthWith_1 : decode cX1_worthWith 1 = .ok (.iload_n 2, 1) := by decide +kernel
theorem dX1_worthWith_2 : decode cX1_worthWith 2 = .ok (.iadd, 1) := by decide +kernel
theorem dX1_worthWith_3 : decode cX1_worthWith 3 = .ok (.istore 4, 2) := by decide +kernel
theorem dX1_worthWith_5 : decode cX1_worthWith 5 = .ok (.iload 4, 2) := by decide +kernel
theorem dX1_worthWith_7 : decode cX1_worthWith 7 = .ok (.bipush 99, 2) := by decide +kernel
theorem dX1_worthWith_9 : decode cX1_worthWith 9 = .ok (.if_icmp .gt 7, 3) := by decide +kernel
theorem dX1_worthWith_12 : decode cX1_worthWith 12 = .ok (.iload_n 3, 1) := by decide +kernel
theorem dX1_worthWith_13 : decode cX1_worthWith 13 = .ok (.ifCond .ge 5, 3) := by decide +kernel
theorem dX1_worthWith_16 : decode cX1_worthWith 16 = .ok (.iconst 0, 1) := by decide +kernel
theorem dX1_worthWith_17 : decode cX1_worthWith 17 = .ok (.ireturn, 1) := by decide +kernel
theorem dX1_worthWith_18 : decode cX1_worthWith 18 = .ok (.iconst 0, 1) := by decide +kernel
theorem dX1_worthWith_19 : decode cX1_worthWith 19 = .ok (.istore 5, 2) := by decide +kernel
theorem dX1_worthWith_21 : decode cX1_worthWith 21 = .ok (.bipush 99, 2) := by decide +kernel
theorem dX1_worthWith_23 : decode cX1_worthWith 23 = .ok (.istore 6, 2) := by decide +kernel
theorem dX1_worthWith_25 : decode cX1_worthWith 25 = .ok (.iload 6, 2) := by decide +kernel
theorem dX1_worthWith_27 : decode cX1_worthWith 27 = .ok (.iload_n 1, 1) := by decide +kernel
theorem dX1_worthWith_28 : decode cX1_worthWith 28 = .ok (.if_icmp .lt 49, 3) := by decide +kernel
theorem dX1_worthWith_31 : decode cX1_worthWith 31 = .ok (.iload 6, 2) := by decide +kernel
theorem dX1_worthWith_33 : decode cX1_worthWith 33 = .ok (.iload 4, 2) := by decide +kernel
theorem dX1_worthWith_35 : decode cX1_worthWith 35 = .ok (.if_icmp .lt 9, 3) := by decide +kernel
theorem dX1_worthWith_38 : decode cX1_worthWith 38 = .ok (.sipush 1000, 3) := by decide +kernel
theorem dX1_worthWith_41 : decode cX1_worthWith 41 = .ok (.goto 4, 3) := by decide +kernel
theorem dX1_worthWith_44 : decode cX1_worthWith 44 = .ok (.iconst 0, 1) := by decide +kernel
theorem dX1_worthWith_45 : decode cX1_worthWith 45 = .ok (.istore 7, 2) := by decide +kernel
theorem dX1_worthWith_47 : decode cX1_worthWith 47 = .ok (.sipush 1000, 3) := by decide +kernel
theorem dX1_worthWith_50 : decode cX1_worthWith 50 = .ok (.aload_n 0, 1) := by decide +kernel
theorem dX1_worthWith_51 : decode cX1_worthWith 51 = .ok (.iload 6, 2) := by decide +kernel
theorem dX1_worthWith_53 : decode cX1_worthWith 53 = .ok (.invokevirtual 26, 3) := by decide +kernel
theorem dX1_worthWith_56 : decode cX1_worthWith 56 = .ok (.isub, 1) := by decide +kernel
theorem dX1_worthWith_57 : decode cX1_worthWith 57 = .ok (.iload 7, 2) := by decide +kernel
theorem dX1_worthWith_59 : decode cX1_worthWith 59 = .ok (.iload 5, 2) := by decide +kernel
theorem dX1_worthWith_61 : decode cX1_worthWith 61 = .ok (.iadd, 1) := by decide +kernel
theorem dX1_worthWith_62 : decode cX1_worthWith 62 = .ok (.imul, 1) := by decide +kernel
theorem dX1_worthWith_63 : decode cX1_worthWith 63 = .ok (.sipush 1000, 3) := by decide +kernel
theorem dX1_worthWith_66 : decode cX1_worthWith 66 = .ok (.iload_n 3, 1) := by decide +kernel
theorem dX1_worthWith_67 : decode cX1_worthWith 67 = .ok (.iadd, 1) := by decide +kernel
theorem dX1_worthWith_68 : decode cX1_worthWith 68 = .ok (.idiv, 1) := by decide +kernel
theorem dX1_worthWith_69 : decode cX1_worthWith 69 = .ok (.istore 5, 2) := by decide +kernel
theorem dX1_worthWith_71 : decode cX1_worthWith 71 = .ok (.iinc 6 (-1), 3) := by decide +kernel
theorem dX1_worthWith_74 : decode cX1_worthWith 74 = .ok (.goto (-49), 3) := by decide +kernel
theorem dX1_worthWith_77 : decode cX1_worthWith 77 = .ok (.iload 5, 2) := by decide +kernel
theorem dX1_worthWith_79 : decode cX1_worthWith 79 = .ok (.ireturn, 1) := by decide +kernel
theorem dX1_priceOf_0 : decode cX1_priceOf 0 = .ok (.iload_n 2, 1) := by decide +kernel
theorem dX1_priceOf_1 : decode cX1_priceOf 1 = .ok (.ifCond .ne 5, 3) := by decide +kernel
theorem dX1_priceOf_4 : decode cX1_priceOf 4 = .ok (.iconst 0, 1) := by decide +kernel
theorem dX1_priceOf_5 : decode cX1_priceOf 5 = .ok (.ireturn, 1) := by decide +kernel
theorem dX1_priceOf_6 : decode cX1_priceOf 6 = .ok (.iload_n 1, 1) := by decide +kernel
theorem dX1_priceOf_7 : decode cX1_priceOf 7 = .ok (.iload_n 2, 1) := by decide +kernel
theorem dX1_priceOf_8 : decode cX1_priceOf 8 = .ok (.imul, 1) := by decide +kernel
theorem dX1_priceOf_9 : decode cX1_priceOf 9 = .ok (.sipush 1000, 3) := by decide +kernel
theorem dX1_priceOf_12 : decode cX1_priceOf 12 = .ok (.idiv, 1) := by decide +kernel
theorem dX1_priceOf_13 : decode cX1_priceOf 13 = .ok (.istore_n 3, 1) := by decide +kernel
theorem dX1_priceOf_14 : decode cX1_priceOf 14 = .ok (.iload_n 3, 1) := by decide +kernel
theorem dX1_priceOf_15 : decode cX1_priceOf 15 = .ok (.iload_n 3, 1) := by decide +kernel
theorem dX1_priceOf_16 : decode cX1_priceOf 16 = .ok (.aload_n 0, 1) := by decide +kernel
theorem dX1_priceOf_17 : decode cX1_priceOf 17 = .ok (.getfield 15, 3) := by decide +kernel
theorem dX1_priceOf_20 : decode cX1_priceOf 20 = .ok (.iconst 1, 1) := by decide +kernel
theorem dX1_priceOf_21 : decode cX1_priceOf 21 = .ok (.iaload, 1) := by decide +kernel
theorem dX1_priceOf_22 : decode cX1_priceOf 22 = .ok (.imul, 1) := by decide +kernel
theorem dX1_priceOf_23 : decode cX1_priceOf 23 = .ok (.bipush 100, 2) := by decide +kernel
theorem dX1_priceOf_25 : decode cX1_priceOf 25 = .ok (.idiv, 1) := by decide +kernel
theorem dX1_priceOf_26 : decode cX1_priceOf 26 = .ok (.iadd, 1) := by decide +kernel
theorem dX1_priceOf_27 : decode cX1_priceOf 27 = .ok (.istore 4, 2) := by decide +kernel
theorem dX1_priceOf_29 : decode cX1_priceOf 29 = .ok (.iload 4, 2) := by decide +kernel
theorem dX1_priceOf_31 : decode cX1_priceOf 31 = .ok (.iconst 1, 1) := by decide +kernel
theorem dX1_priceOf_32 : decode cX1_priceOf 32 = .ok (.if_icmp .ge 7, 3) := by decide +kernel
theorem dX1_priceOf_35 : decode cX1_priceOf 35 = .ok (.iconst 1, 1) := by decide +kernel
theorem dX1_priceOf_36 : decode cX1_priceOf 36 = .ok (.goto 5, 3) := by decide +kernel
theorem dX1_priceOf_39 : decode cX1_priceOf 39 = .ok (.iload 4, 2) := by decide +kernel
theorem dX1_priceOf_41 : decode cX1_priceOf 41 = .ok (.ireturn, 1) := by decide +kernel
set_option maxRecDepth 20000 in
theorem ggX1_greatestSum_X1_priceOf : GoodIn wsX1_greatestSum wsX1_priceOf := goodIn_r _ [5, 6, 7, 8] (by decide +kernel) (by decide +kernel)
set_option maxRecDepth 20000 in
theorem gX1_greatestSum_X1_priceOf : GoodIn wsX1_greatestSum (wsV RX1 30 RX1 yX1_priceOf wsX1_priceOf) := goodIn_app (goodIn_of _ (by decide +kernel)) ggX1_greatestSum_X1_priceOf
theorem dX1_greatestSum_0 : decode cX1_greatestSum 0 = .ok (.iconst 0, 1) := by decide +kernel
theorem dX1_greatestSum_1 : decode cX1_greatestSum 1 = .ok (.istore_n 3, 1) := by decide +kernel
theorem dX1_greatestSum_2 : decode cX1_greatestSum 2 = .ok (.sipush 512, 3) := by decide +kernel
end
section
theorem dX1_greatestSum_5 : decode cX1_greatestSum 5 = .ok (.istore 4, 2) := by decide +kernel
theorem dX1_greatestSum_7 : decode cX1_greatestSum 7 = .ok (.iload 4, 2) := by decide +kernel
theorem dX1_greatestSum_9 : decode cX1_greatestSum 9 = .ok (.ifCond .le 40, 3) := by decide +kernel
theorem dX1_greatestSum_12 : decode cX1_greatestSum 12 = .ok (.iload_n 3, 1) := by decide +kernel
theorem dX1_greatestSum_13 : decode cX1_greatestSum 13 = .ok (.iload 4, 2) := by decide +kernel
theorem dX1_greatestSum_15 : decode cX1_greatestSum 15 = .ok (.iadd, 1) := by decide +kernel
theorem dX1_greatestSum_16 : decode cX1_greatestSum 16 = .ok (.istore 5, 2) := by decide +kernel
theorem dX1_greatestSum_18 : decode cX1_greatestSum 18 = .ok (.iload 5, 2) := by decide +kernel
theorem dX1_greatestSum_20 : decode cX1_greatestSum 20 = .ok (.sipush 999, 3) := by decide +kernel
theorem dX1_greatestSum_23 : decode cX1_greatestSum 23 = .ok (.if_icmp .gt 17, 3) := by decide +kernel
theorem dX1_greatestSum_26 : decode cX1_greatestSum 26 = .ok (.aload_n 0, 1) := by decide +kernel
theorem dX1_greatestSum_27 : decode cX1_greatestSum 27 = .ok (.iload 5, 2) := by decide +kernel
theorem dX1_greatestSum_29 : decode cX1_greatestSum 29 = .ok (.iload_n 1, 1) := by decide +kernel
theorem dX1_greatestSum_30 : decode cX1_greatestSum 30 = .ok (.invokevirtual 30, 3) := by decide +kernel
theorem dX1_greatestSum_33 : decode cX1_greatestSum 33 = .ok (.iload_n 2, 1) := by decide +kernel
theorem dX1_greatestSum_34 : decode cX1_greatestSum 34 = .ok (.if_icmp .gt 6, 3) := by decide +kernel
theorem dX1_greatestSum_37 : decode cX1_greatestSum 37 = .ok (.iload 5, 2) := by decide +kernel
theorem dX1_greatestSum_39 : decode cX1_greatestSum 39 = .ok (.istore_n 3, 1) := by decide +kernel
theorem dX1_greatestSum_40 : decode cX1_greatestSum 40 = .ok (.iload 4, 2) := by decide +kernel
theorem dX1_greatestSum_42 : decode cX1_greatestSum 42 = .ok (.iconst 2, 1) := by decide +kernel
theorem dX1_greatestSum_43 : decode cX1_greatestSum 43 = .ok (.idiv, 1) := by decide +kernel
theorem dX1_greatestSum_44 : decode cX1_greatestSum 44 = .ok (.istore 4, 2) := by decide +kernel
theorem dX1_greatestSum_46 : decode cX1_greatestSum 46 = .ok (.goto (-39), 3) := by decide +kernel
theorem dX1_greatestSum_49 : decode cX1_greatestSum 49 = .ok (.iload_n 3, 1) := by decide +kernel
theorem dX1_greatestSum_50 : decode cX1_greatestSum 50 = .ok (.ireturn, 1) := by decide +kernel
set_option maxRecDepth 20000 in
theorem ggX1_leftOfThousand_X1_deathsAt : GoodIn wsX1_leftOfThousand wsX1_deathsAt := goodIn_r _ [5, 6, 7, 8, 9, 10, 11] (by decide +kernel) (by decide +kernel)
set_option maxRecDepth 20000 in
theorem gX1_leftOfThousand_X1_deathsAt : GoodIn wsX1_leftOfThousand (wsV RX1 26 RX1 yX1_deathsAt wsX1_deathsAt) := goodIn_app (goodIn_of _ (by decide +kernel)) ggX1_leftOfThousand_X1_deathsAt
theorem dX1_leftOfThousand_0 : decode cX1_leftOfThousand 0 = .ok (.iload_n 1, 1) := by decide +kernel
theorem dX1_leftOfThousand_1 : decode cX1_leftOfThousand 1 = .ok (.iload_n 2, 1) := by decide +kernel
theorem dX1_leftOfThousand_2 : decode cX1_leftOfThousand 2 = .ok (.iadd, 1) := by decide +kernel
theorem dX1_leftOfThousand_3 : decode cX1_leftOfThousand 3 = .ok (.bipush 99, 2) := by decide +kernel
theorem dX1_leftOfThousand_5 : decode cX1_leftOfThousand 5 = .ok (.if_icmp .le 5, 3) := by decide +kernel
theorem dX1_leftOfThousand_8 : decode cX1_leftOfThousand 8 = .ok (.iconst 0, 1) := by decide +kernel
theorem dX1_leftOfThousand_9 : decode cX1_leftOfThousand 9 = .ok (.ireturn, 1) := by decide +kernel
theorem dX1_leftOfThousand_10 : decode cX1_leftOfThousand 10 = .ok (.sipush 1000, 3) := by decide +kernel
theorem dX1_leftOfThousand_13 : decode cX1_leftOfThousand 13 = .ok (.istore_n 3, 1) := by decide +kernel
theorem dX1_leftOfThousand_14 : decode cX1_leftOfThousand 14 = .ok (.iload_n 1, 1) := by decide +kernel
theorem dX1_leftOfThousand_15 : decode cX1_leftOfThousand 15 = .ok (.istore 4, 2) := by decide +kernel
theorem dX1_leftOfThousand_17 : decode cX1_leftOfThousand 17 = .ok (.iload 4, 2) := by decide +kernel
theorem dX1_leftOfThousand_19 : decode cX1_leftOfThousand 19 = .ok (.iload_n 1, 1) := by decide +kernel
theorem dX1_leftOfThousand_20 : decode cX1_leftOfThousand 20 = .ok (.iload_n 2, 1) := by decide +kernel
theorem dX1_leftOfThousand_21 : decode cX1_leftOfThousand 21 = .ok (.iadd, 1) := by decide +kernel
theorem dX1_leftOfThousand_22 : decode cX1_leftOfThousand 22 = .ok (.if_icmp .ge 26, 3) := by decide +kernel
theorem dX1_leftOfThousand_25 : decode cX1_leftOfThousand 25 = .ok (.iload_n 3, 1) := by decide +kernel
theorem dX1_leftOfThousand_26 : decode cX1_leftOfThousand 26 = .ok (.sipush 1000, 3) := by decide +kernel
theorem dX1_leftOfThousand_29 : decode cX1_leftOfThousand 29 = .ok (.aload_n 0, 1) := by decide +kernel
theorem dX1_leftOfThousand_30 : decode cX1_leftOfThousand 30 = .ok (.iload 4, 2) := by decide +kernel
theorem dX1_leftOfThousand_32 : decode cX1_leftOfThousand 32 = .ok (.invokevirtual 26, 3) := by decide +kernel
theorem dX1_leftOfThousand_35 : decode cX1_leftOfThousand 35 = .ok (.isub, 1) := by decide +kernel
theorem dX1_leftOfThousand_36 : decode cX1_leftOfThousand 36 = .ok (.imul, 1) := by decide +kernel
theorem dX1_leftOfThousand_37 : decode cX1_leftOfThousand 37 = .ok (.sipush 1000, 3) := by decide +kernel
theorem dX1_leftOfThousand_40 : decode cX1_leftOfThousand 40 = .ok (.idiv, 1) := by decide +kernel
theorem dX1_leftOfThousand_41 : decode cX1_leftOfThousand 41 = .ok (.istore_n 3, 1) := by decide +kernel
theorem dX1_leftOfThousand_42 : decode cX1_leftOfThousand 42 = .ok (.iinc 4 1, 3) := by decide +kernel
theorem dX1_leftOfThousand_45 : decode cX1_leftOfThousand 45 = .ok (.goto (-28), 3) := by decide +kernel
theorem dX1_leftOfThousand_48 : decode cX1_leftOfThousand 48 = .ok (.iload_n 3, 1) := by decide +kernel
theorem dX1_leftOfThousand_49 : decode cX1_leftOfThousand 49 = .ok (.ireturn, 1) := by decide +kernel
set_option maxRecDepth 20000 in
theorem ggX1_keptNow_X1_keptWith : GoodIn wsX1_keptNow wsX1_keptWith := goodIn_r _ [6, 7, 8, 9, 10, 11, 12, 13, 14, 15, 16, 17, 18, 5, 19, 20, 21, 22, 23, 24, 25, 26, 27, 30, 31, 32, 33, 34, 35, 36, 28, 29] (by decide +kernel) (by decide +kernel)
set_option maxRecDepth 20000 in
theorem gX1_keptNow_X1_keptWith : GoodIn wsX1_keptNow (wsV RX1 34 RX1 yX1_keptWith wsX1_keptWith) := goodIn_app (goodIn_of _ (by decide +kernel)) ggX1_keptNow_X1_keptWith
theorem dX1_keptNow_0 : decode cX1_keptNow 0 = .ok (.aload_n 0, 1) := by decide +kernel
theorem dX1_keptNow_1 : decode cX1_keptNow 1 = .ok (.aload_n 1, 1) := by decide +kernel
theorem dX1_keptNow_2 : decode cX1_keptNow 2 = .ok (.aload_n 0, 1) := by decide +kernel
theorem dX1_keptNow_3 : decode cX1_keptNow 3 = .ok (.getfield 15, 3) := by decide +kernel
theorem dX1_keptNow_6 : decode cX1_keptNow 6 = .ok (.iconst 0, 1) := by decide +kernel
theorem dX1_keptNow_7 : decode cX1_keptNow 7 = .ok (.iaload, 1) := by decide +kernel
theorem dX1_keptNow_8 : decode cX1_keptNow 8 = .ok (.invokevirtual 34, 3) := by decide +kernel
theorem dX1_keptNow_11 : decode cX1_keptNow 11 = .ok (.ireturn, 1) := by decide +kernel
set_option maxRecDepth 20000 in
theorem ggX1_keptWith_X2_lives : GoodIn wsX1_keptWith wsX2_lives := goodIn_r _ [8, 9, 23, 24, 25, 26, 27, 28, 29] (by decide +kernel) (by decide +kernel)
set_option maxRecDepth 20000 in
theorem gX1_keptWith_X2_lives : GoodIn wsX1_keptWith (wsV RX1 38 RX2 yX2_lives wsX2_lives) := goodIn_app (goodIn_of _ (by decide +kernel)) ggX1_keptWith_X2_lives
set_option maxRecDepth 20000 in
theorem ggX1_keptWith_X1_worthWith : GoodIn wsX1_keptWith wsX1_worthWith := goodIn_r _ [14, 15, 16, 17, 13, 18, 19, 20, 21, 22, 30, 31] (by decide +kernel) (by decide +kernel)
set_option maxRecDepth 20000 in
theorem gX1_keptWith_X1_worthWith : GoodIn wsX1_keptWith (wsV RX1 22 RX1 yX1_worthWith wsX1_worthWith) := goodIn_app (goodIn_of _ (by decide +kernel)) ggX1_keptWith_X1_worthWith
theorem dX1_keptWith_0 : decode cX1_keptWith 0 = .ok (.aload_n 1, 1) := by decide +kernel
theorem dX1_keptWith_1 : decode cX1_keptWith 1 = .ok (.invokevirtual 38, 3) := by decide +kernel
theorem dX1_keptWith_4 : decode cX1_keptWith 4 = .ok (.ifCond .eq 28, 3) := by decide +kernel
theorem dX1_keptWith_7 : decode cX1_keptWith 7 = .ok (.aload_n 1, 1) := by decide +kernel
theorem dX1_keptWith_8 : decode cX1_keptWith 8 = .ok (.getfield 44, 3) := by decide +kernel
theorem dX1_keptWith_11 : decode cX1_keptWith 11 = .ok (.aload_n 0, 1) := by decide +kernel
theorem dX1_keptWith_12 : decode cX1_keptWith 12 = .ok (.aload_n 1, 1) := by decide +kernel
theorem dX1_keptWith_13 : decode cX1_keptWith 13 = .ok (.getfield 48, 3) := by decide +kernel
theorem dX1_keptWith_16 : decode cX1_keptWith 16 = .ok (.aload_n 1, 1) := by decide +kernel
theorem dX1_keptWith_17 : decode cX1_keptWith 17 = .ok (.getfield 51, 3) := by decide +kernel
theorem dX1_keptWith_20 : decode cX1_keptWith 20 = .ok (.iload_n 2, 1) := by decide +kernel
theorem dX1_keptWith_21 : decode cX1_keptWith 21 = .ok (.invokevirtual 22, 3) := by decide +kernel
theorem dX1_keptWith_24 : decode cX1_keptWith 24 = .ok (.imul, 1) := by decide +kernel
theorem dX1_keptWith_25 : decode cX1_keptWith 25 = .ok (.sipush 1000, 3) := by decide +kernel
theorem dX1_keptWith_28 : decode cX1_keptWith 28 = .ok (.idiv, 1) := by decide +kernel
theorem dX1_keptWith_29 : decode cX1_keptWith 29 = .ok (.goto 4, 3) := by decide +kernel
theorem dX1_keptWith_32 : decode cX1_keptWith 32 = .ok (.iconst 0, 1) := by decide +kernel
theorem dX1_keptWith_33 : decode cX1_keptWith 33 = .ok (.ireturn, 1) := by decide +kernel
set_option maxRecDepth 20000 in
theorem ggX1_givenBack_X2_canGiveUp : GoodIn wsX1_givenBack wsX2_canGiveUp := goodIn_r _ [6, 7, 8, 9, 10, 5, 11, 12, 40, 41, 42, 43, 44, 45, 46] (by decide +kernel) (by decide +kernel)
set_option maxRecDepth 20000 in
theorem gX1_givenBack_X2_canGiveUp : GoodIn wsX1_givenBack (wsV RX1 54 RX2 yX2_canGiveUp wsX2_canGiveUp) := goodIn_app (goodIn_of _ (by decide +kernel)) ggX1_givenBack_X2_canGiveUp
set_option maxRecDepth 20000 in
theorem ggX1_givenBack_X1_keptNow : GoodIn wsX1_givenBack wsX1_keptNow := goodIn_r _ [17, 1, 18, 19, 20, 16, 21, 22, 23, 24, 25, 9, 10, 5, 11, 12, 26, 27, 28, 29, 30, 31, 32, 33, 34, 35, 36, 37, 38, 39, 40, 41, 42, 43, 44, 45, 46] (by decide +kernel) (by decide +kernel)
set_option maxRecDepth 20000 in
theorem gX1_givenBack_X1_keptNow : GoodIn wsX1_givenBack (wsV RX1 57 RX1 yX1_keptNow wsX1_keptNow) := goodIn_app (goodIn_of _ (by decide +kernel)) ggX1_givenBack_X1_keptNow
theorem dX1_givenBack_0 : decode cX1_givenBack 0 = .ok (.aload_n 1, 1) := by decide +kernel
theorem dX1_givenBack_1 : decode cX1_givenBack 1 = .ok (.invokevirtual 54, 3) := by decide +kernel
theorem dX1_givenBack_4 : decode cX1_givenBack 4 = .ok (.ifCond .ne 5, 3) := by decide +kernel
theorem dX1_givenBack_7 : decode cX1_givenBack 7 = .ok (.iconst 0, 1) := by decide +kernel
theorem dX1_givenBack_8 : decode cX1_givenBack 8 = .ok (.ireturn, 1) := by decide +kernel
theorem dX1_givenBack_9 : decode cX1_givenBack 9 = .ok (.aload_n 0, 1) := by decide +kernel
theorem dX1_givenBack_10 : decode cX1_givenBack 10 = .ok (.aload_n 1, 1) := by decide +kernel
theorem dX1_givenBack_11 : decode cX1_givenBack 11 = .ok (.invokevirtual 57, 3) := by decide +kernel
theorem dX1_givenBack_14 : decode cX1_givenBack 14 = .ok (.istore_n 2, 1) := by decide +kernel
theorem dX1_givenBack_15 : decode cX1_givenBack 15 = .ok (.iload_n 2, 1) := by decide +kernel
theorem dX1_givenBack_16 : decode cX1_givenBack 16 = .ok (.iload_n 2, 1) := by decide +kernel
theorem dX1_givenBack_17 : decode cX1_givenBack 17 = .ok (.aload_n 0, 1) := by decide +kernel
theorem dX1_givenBack_18 : decode cX1_givenBack 18 = .ok (.getfield 15, 3) := by decide +kernel
theorem dX1_givenBack_21 : decode cX1_givenBack 21 = .ok (.iconst 2, 1) := by decide +kernel
theorem dX1_givenBack_22 : decode cX1_givenBack 22 = .ok (.iaload, 1) := by decide +kernel
theorem dX1_givenBack_23 : decode cX1_givenBack 23 = .ok (.imul, 1) := by decide +kernel
theorem dX1_givenBack_24 : decode cX1_givenBack 24 = .ok (.bipush 100, 2) := by decide +kernel
theorem dX1_givenBack_26 : decode cX1_givenBack 26 = .ok (.idiv, 1) := by decide +kernel
theorem dX1_givenBack_27 : decode cX1_givenBack 27 = .ok (.isub, 1) := by decide +kernel
theorem dX1_givenBack_28 : decode cX1_givenBack 28 = .ok (.ireturn, 1) := by decide +kernel
set_option maxRecDepth 20000 in
theorem ggX1_tellOf_X1_keptNow : GoodIn wsX1_tellOf wsX1_keptNow := goodIn_r _ [12, 13, 14, 15, 16, 11, 17, 2, 1, 3, 18, 19, 20, 21, 22, 23, 24, 25, 26, 27, 28, 29, 30, 31, 32, 33, 34, 35, 53, 54, 46, 47, 48, 49, 50, 51, 52] (by decide +kernel) (by decide +kernel)
set_option maxRecDepth 20000 in
theorem gX1_tellOf_X1_keptNow : GoodIn wsX1_tellOf (wsV RX1 57 RX1 yX1_keptNow wsX1_keptNow) := goodIn_app (goodIn_of _ (by decide +kernel)) ggX1_tellOf_X1_keptNow
set_option maxRecDepth 20000 in
theorem ggX1_tellOf_X1_givenBack : GoodIn wsX1_tellOf wsX1_givenBack := goodIn_r _ [39, 13, 40, 41, 42, 21, 43, 44, 45, 19, 20, 22, 23, 8, 9, 10, 11, 12, 14, 15, 16, 17, 2, 1, 3, 18, 24, 25, 26, 27, 28, 29, 30, 31, 32, 33, 34, 35, 53, 54, 46, 47, 48, 49, 50, 51, 52] (by decide +kernel) (by decide +kernel)
set_option maxRecDepth 20000 in
theorem gX1_tellOf_X1_givenBack : GoodIn wsX1_tellOf (wsV RX1 73 RX1 yX1_givenBack wsX1_givenBack) := goodIn_app (goodIn_of _ (by decide +kernel)) ggX1_tellOf_X1_givenBack
theorem dX1_tellOf_0 : decode cX1_tellOf 0 = .ok (.iload_n 2, 1) := by decide +kernel
theorem dX1_tellOf_1 : decode cX1_tellOf 1 = .ok (.tableswitch 88 0 7 #[47, 52, 57, 62, 67, 72, 78, 83], 47) := by decide +kernel
theorem dX1_tellOf_48 : decode cX1_tellOf 48 = .ok (.aload_n 1, 1) := by decide +kernel
theorem dX1_tellOf_49 : decode cX1_tellOf 49 = .ok (.getfield 48, 3) := by decide +kernel
theorem dX1_tellOf_52 : decode cX1_tellOf 52 = .ok (.ireturn, 1) := by decide +kernel
theorem dX1_tellOf_53 : decode cX1_tellOf 53 = .ok (.aload_n 1, 1) := by decide +kernel
theorem dX1_tellOf_54 : decode cX1_tellOf 54 = .ok (.getfield 44, 3) := by decide +kernel
theorem dX1_tellOf_57 : decode cX1_tellOf 57 = .ok (.ireturn, 1) := by decide +kernel
theorem dX1_tellOf_58 : decode cX1_tellOf 58 = .ok (.aload_n 1, 1) := by decide +kernel
theorem dX1_tellOf_59 : decode cX1_tellOf 59 = .ok (.getfield 51, 3) := by decide +kernel
theorem dX1_tellOf_62 : decode cX1_tellOf 62 = .ok (.ireturn, 1) := by decide +kernel
theorem dX1_tellOf_63 : decode cX1_tellOf 63 = .ok (.aload_n 1, 1) := by decide +kernel
theorem dX1_tellOf_64 : decode cX1_tellOf 64 = .ok (.getfield 61, 3) := by decide +kernel
theorem dX1_tellOf_67 : decode cX1_tellOf 67 = .ok (.ireturn, 1) := by decide +kernel
theorem dX1_tellOf_68 : decode cX1_tellOf 68 = .ok (.aload_n 1, 1) := by decide +kernel
theorem dX1_tellOf_69 : decode cX1_tellOf 69 = .ok (.getfield 64, 3) := by decide +kernel
theorem dX1_tellOf_72 : decode cX1_tellOf 72 = .ok (.ireturn, 1) := by decide +kernel
theorem dX1_tellOf_73 : decode cX1_tellOf 73 = .ok (.aload_n 0, 1) := by decide +kernel
theorem dX1_tellOf_74 : decode cX1_tellOf 74 = .ok (.aload_n 1, 1) := by decide +kernel
theorem dX1_tellOf_75 : decode cX1_tellOf 75 = .ok (.invokevirtual 57, 3) := by decide +kernel
theorem dX1_tellOf_78 : decode cX1_tellOf 78 = .ok (.ireturn, 1) := by decide +kernel
theorem dX1_tellOf_79 : decode cX1_tellOf 79 = .ok (.aload_n 1, 1) := by decide +kernel
theorem dX1_tellOf_80 : decode cX1_tellOf 80 = .ok (.getfield 67, 3) := by decide +kernel
theorem dX1_tellOf_83 : decode cX1_tellOf 83 = .ok (.ireturn, 1) := by decide +kernel
theorem dX1_tellOf_84 : decode cX1_tellOf 84 = .ok (.aload_n 1, 1) := by decide +kernel
theorem dX1_tellOf_85 : decode cX1_tellOf 85 = .ok (.getfield 70, 3) := by decide +kernel
theorem dX1_tellOf_88 : decode cX1_tellOf 88 = .ok (.ireturn, 1) := by decide +kernel
theorem dX1_tellOf_89 : decode cX1_tellOf 89 = .ok (.aload_n 0, 1) := by decide +kernel
theorem dX1_tellOf_90 : decode cX1_tellOf 90 = .ok (.aload_n 1, 1) := by decide +kernel
theorem dX1_tellOf_91 : decode cX1_tellOf 91 = .ok (.invokevirtual 73, 3) := by decide +kernel
theorem dX1_tellOf_94 : decode cX1_tellOf 94 = .ok (.ireturn, 1) := by decide +kernel
theorem dX2_init_0 : decode cX2_init 0 = .ok (.aload_n 0, 1) := by decide +kernel
theorem dX2_init_1 : decode cX2_init 1 = .ok (.invokespecial 3, 3) := by decide +kernel
theorem dX2_init_4 : decode cX2_init 4 = .ok (.return_, 1) := by decide +kernel
theorem dX2_lives_0 : decode cX2_lives 0 = .ok (.aload_n 0, 1) := by decide +kernel
theorem dX2_lives_1 : decode cX2_lives 1 = .ok (.getfield 9, 3) := by decide +kernel
theorem dX2_lives_4 : decode cX2_lives 4 = .ok (.ifCond .ne 7, 3) := by decide +kernel
theorem dX2_lives_7 : decode cX2_lives 7 = .ok (.iconst 1, 1) := by decide +kernel
theorem dX2_lives_8 : decode cX2_lives 8 = .ok (.goto 4, 3) := by decide +kernel
theorem dX2_lives_11 : decode cX2_lives 11 = .ok (.iconst 0, 1) := by decide +kernel
theorem dX2_lives_12 : decode cX2_lives 12 = .ok (.ireturn, 1) := by decide +kernel
set_option maxRecDepth 20000 in
theorem ggX2_canGiveUp_X2_lives : GoodIn wsX2_canGiveUp wsX2_lives := goodIn_r _ [6, 7, 8, 9, 10, 11, 12, 13, 14] (by decide +kernel) (by decide +kernel)
set_option maxRecDepth 20000 in
theorem gX2_canGiveUp_X2_lives : GoodIn wsX2_canGiveUp (wsV RX2 15 RX2 yX2_lives wsX2_lives) := goodIn_app (goodIn_of _ (by decide +kernel)) ggX2_canGiveUp_X2_lives
theorem dX2_canGiveUp_0 : decode cX2_canGiveUp 0 = .ok (.aload_n 0, 1) := by decide +kernel
theorem dX2_canGiveUp_1 : decode cX2_canGiveUp 1 = .ok (.invokevirtual 15, 3) := by decide +kernel
theorem dX2_canGiveUp_4 : decode cX2_canGiveUp 4 = .ok (.ifCond .eq 15, 3) := by decide +kernel
theorem dX2_canGiveUp_7 : decode cX2_canGiveUp 7 = .ok (.aload_n 0, 1) := by decide +kernel
theorem dX2_canGiveUp_8 : decode cX2_canGiveUp 8 = .ok (.getfield 19, 3) := by decide +kernel
theorem dX2_canGiveUp_11 : decode cX2_canGiveUp 11 = .ok (.iconst 2, 1) := by decide +kernel
theorem dX2_canGiveUp_12 : decode cX2_canGiveUp 12 = .ok (.if_icmp .lt 7, 3) := by decide +kernel
theorem dX2_canGiveUp_15 : decode cX2_canGiveUp 15 = .ok (.iconst 1, 1) := by decide +kernel
theorem dX2_canGiveUp_16 : decode cX2_canGiveUp 16 = .ok (.goto 4, 3) := by decide +kernel
theorem dX2_canGiveUp_19 : decode cX2_canGiveUp 19 = .ok (.iconst 0, 1) := by decide +kernel
theorem dX2_canGiveUp_20 : decode cX2_canGiveUp 20 = .ok (.ireturn, 1) := by decide +kernel
theorem dX2_start_0 : decode cX2_start 0 = .ok (.aload_n 0, 1) := by decide +kernel
theorem dX2_start_1 : decode cX2_start 1 = .ok (.iload_n 1, 1) := by decide +kernel
theorem dX2_start_2 : decode cX2_start 2 = .ok (.putfield 22, 3) := by decide +kernel
theorem dX2_start_5 : decode cX2_start 5 = .ok (.aload_n 0, 1) := by decide +kernel
theorem dX2_start_6 : decode cX2_start 6 = .ok (.iload_n 2, 1) := by decide +kernel
theorem dX2_start_7 : decode cX2_start 7 = .ok (.putfield 25, 3) := by decide +kernel
theorem dX2_start_10 : decode cX2_start 10 = .ok (.aload_n 0, 1) := by decide +kernel
theorem dX2_start_11 : decode cX2_start 11 = .ok (.iload_n 3, 1) := by decide +kernel
theorem dX2_start_12 : decode cX2_start 12 = .ok (.putfield 28, 3) := by decide +kernel
theorem dX2_start_15 : decode cX2_start 15 = .ok (.aload_n 0, 1) := by decide +kernel
theorem dX2_start_16 : decode cX2_start 16 = .ok (.iconst 0, 1) := by decide +kernel
theorem dX2_start_17 : decode cX2_start 17 = .ok (.putfield 19, 3) := by decide +kernel
theorem dX2_start_20 : decode cX2_start 20 = .ok (.aload_n 0, 1) := by decide +kernel
theorem dX2_start_21 : decode cX2_start 21 = .ok (.iconst 0, 1) := by decide +kernel
theorem dX2_start_22 : decode cX2_start 22 = .ok (.putfield 9, 3) := by decide +kernel
theorem dX2_start_25 : decode cX2_start 25 = .ok (.aload_n 0, 1) := by decide +kernel
theorem dX2_start_26 : decode cX2_start 26 = .ok (.iconst 0, 1) := by decide +kernel
theorem dX2_start_27 : decode cX2_start 27 = .ok (.putfield 31, 3) := by decide +kernel
theorem dX2_start_30 : decode cX2_start 30 = .ok (.aload_n 0, 1) := by decide +kernel
theorem dX2_start_31 : decode cX2_start 31 = .ok (.iload 4, 2) := by decide +kernel
theorem dX2_start_33 : decode cX2_start 33 = .ok (.putfield 34, 3) := by decide +kernel
theorem dX2_start_36 : decode cX2_start 36 = .ok (.return_, 1) := by decide +kernel
theorem dX2_copy_0 : decode cX2_copy 0 = .ok (.aload_n 0, 1) := by decide +kernel
theorem dX2_copy_1 : decode cX2_copy 1 = .ok (.aload_n 1, 1) := by decide +kernel
theorem dX2_copy_2 : decode cX2_copy 2 = .ok (.getfield 22, 3) := by decide +kernel
theorem dX2_copy_5 : decode cX2_copy 5 = .ok (.putfield 22, 3) := by decide +kernel
theorem dX2_copy_8 : decode cX2_copy 8 = .ok (.aload_n 0, 1) := by decide +kernel
theorem dX2_copy_9 : decode cX2_copy 9 = .ok (.aload_n 1, 1) := by decide +kernel
theorem dX2_copy_10 : decode cX2_copy 10 = .ok (.getfield 25, 3) := by decide +kernel
theorem dX2_copy_13 : decode cX2_copy 13 = .ok (.putfield 25, 3) := by decide +kernel
theorem dX2_copy_16 : decode cX2_copy 16 = .ok (.aload_n 0, 1) := by decide +kernel
theorem dX2_copy_17 : decode cX2_copy 17 = .ok (.aload_n 1, 1) := by decide +kernel
theorem dX2_copy_18 : decode cX2_copy 18 = .ok (.getfield 28, 3) := by decide +kernel
theorem dX2_copy_21 : decode cX2_copy 21 = .ok (.putfield 28, 3) := by decide +kernel
theorem dX2_copy_24 : decode cX2_copy 24 = .ok (.aload_n 0, 1) := by decide +kernel
theorem dX2_copy_25 : decode cX2_copy 25 = .ok (.aload_n 1, 1) := by decide +kernel
theorem dX2_copy_26 : decode cX2_copy 26 = .ok (.getfield 19, 3) := by decide +kernel
theorem dX2_copy_29 : decode cX2_copy 29 = .ok (.putfield 19, 3) := by decide +kernel
theorem dX2_copy_32 : decode cX2_copy 32 = .ok (.aload_n 0, 1) := by decide +kernel
theorem dX2_copy_33 : decode cX2_copy 33 = .ok (.aload_n 1, 1) := by decide +kernel
theorem dX2_copy_34 : decode cX2_copy 34 = .ok (.getfield 9, 3) := by decide +kernel
theorem dX2_copy_37 : decode cX2_copy 37 = .ok (.putfield 9, 3) := by decide +kernel
theorem dX2_copy_40 : decode cX2_copy 40 = .ok (.aload_n 0, 1) := by decide +kernel
theorem dX2_copy_41 : decode cX2_copy 41 = .ok (.aload_n 1, 1) := by decide +kernel
theorem dX2_copy_42 : decode cX2_copy 42 = .ok (.getfield 31, 3) := by decide +kernel
theorem dX2_copy_45 : decode cX2_copy 45 = .ok (.putfield 31, 3) := by decide +kernel
theorem dX2_copy_48 : decode cX2_copy 48 = .ok (.aload_n 0, 1) := by decide +kernel
theorem dX2_copy_49 : decode cX2_copy 49 = .ok (.aload_n 1, 1) := by decide +kernel
theorem dX2_copy_50 : decode cX2_copy 50 = .ok (.getfield 34, 3) := by decide +kernel
theorem dX2_copy_53 : decode cX2_copy 53 = .ok (.putfield 34, 3) := by decide +kernel
theorem dX2_copy_56 : decode cX2_copy 56 = .ok (.return_, 1) := by decide +kernel
theorem dX2_liveYear_0 : decode cX2_liveYear 0 = .ok (.aload_n 0, 1) := by decide +kernel
theorem dX2_liveYear_1 : decode cX2_liveYear 1 = .ok (.getfield 28, 3) := by decide +kernel
theorem dX2_liveYear_4 : decode cX2_liveYear 4 = .ok (.ifCond .ne 10, 3) := by decide +kernel
theorem dX2_liveYear_7 : decode cX2_liveYear 7 = .ok (.aload_n 0, 1) := by decide +kernel
theorem dX2_liveYear_8 : decode cX2_liveYear 8 = .ok (.getfield 25, 3) := by decide +kernel
theorem dX2_liveYear_11 : decode cX2_liveYear 11 = .ok (.goto 4, 3) := by decide +kernel
theorem dX2_liveYear_14 : decode cX2_liveYear 14 = .ok (.iconst 0, 1) := by decide +kernel
theorem dX2_liveYear_15 : decode cX2_liveYear 15 = .ok (.istore_n 1, 1) := by decide +kernel
theorem dX2_liveYear_16 : decode cX2_liveYear 16 = .ok (.aload_n 0, 1) := by decide +kernel
theorem dX2_liveYear_17 : decode cX2_liveYear 17 = .ok (.getfield 28, 3) := by decide +kernel
theorem dX2_liveYear_20 : decode cX2_liveYear 20 = .ok (.ifCond .le 13, 3) := by decide +kernel
theorem dX2_liveYear_23 : decode cX2_liveYear 23 = .ok (.aload_n 0, 1) := by decide +kernel
theorem dX2_liveYear_24 : decode cX2_liveYear 24 = .ok (.dup, 1) := by decide +kernel
theorem dX2_liveYear_25 : decode cX2_liveYear 25 = .ok (.getfield 28, 3) := by decide +kernel
theorem dX2_liveYear_28 : decode cX2_liveYear 28 = .ok (.iconst 1, 1) := by decide +kernel
theorem dX2_liveYear_29 : decode cX2_liveYear 29 = .ok (.isub, 1) := by decide +kernel
theorem dX2_liveYear_30 : decode cX2_liveYear 30 = .ok (.putfield 28, 3) := by decide +kernel
theorem dX2_liveYear_33 : decode cX2_liveYear 33 = .ok (.aload_n 0, 1) := by decide +kernel
theorem dX2_liveYear_34 : decode cX2_liveYear 34 = .ok (.dup, 1) := by decide +kernel
theorem dX2_liveYear_35 : decode cX2_liveYear 35 = .ok (.getfield 31, 3) := by decide +kernel
theorem dX2_liveYear_38 : decode cX2_liveYear 38 = .ok (.iload_n 1, 1) := by decide +kernel
theorem dX2_liveYear_39 : decode cX2_liveYear 39 = .ok (.iadd, 1) := by decide +kernel
theorem dX2_liveYear_40 : decode cX2_liveYear 40 = .ok (.putfield 31, 3) := by decide +kernel
theorem dX2_liveYear_43 : decode cX2_liveYear 43 = .ok (.aload_n 0, 1) := by decide +kernel
theorem dX2_liveYear_44 : decode cX2_liveYear 44 = .ok (.dup, 1) := by decide +kernel
theorem dX2_liveYear_45 : decode cX2_liveYear 45 = .ok (.getfield 22, 3) := by decide +kernel
theorem dX2_liveYear_48 : decode cX2_liveYear 48 = .ok (.iconst 1, 1) := by decide +kernel
theorem dX2_liveYear_49 : decode cX2_liveYear 49 = .ok (.iadd, 1) := by decide +kernel
theorem dX2_liveYear_50 : decode cX2_liveYear 50 = .ok (.putfield 22, 3) := by decide +kernel
theorem dX2_liveYear_53 : decode cX2_liveYear 53 = .ok (.aload_n 0, 1) := by decide +kernel
theorem dX2_liveYear_54 : decode cX2_liveYear 54 = .ok (.dup, 1) := by decide +kernel
theorem dX2_liveYear_55 : decode cX2_liveYear 55 = .ok (.getfield 19, 3) := by decide +kernel
theorem dX2_liveYear_58 : decode cX2_liveYear 58 = .ok (.iconst 1, 1) := by decide +kernel
theorem dX2_liveYear_59 : decode cX2_liveYear 59 = .ok (.iadd, 1) := by decide +kernel
theorem dX2_liveYear_60 : decode cX2_liveYear 60 = .ok (.putfield 19, 3) := by decide +kernel
theorem dX2_liveYear_63 : decode cX2_liveYear 63 = .ok (.aload_n 0, 1) := by decide +kernel
theorem dX2_liveYear_64 : decode cX2_liveYear 64 = .ok (.getfield 22, 3) := by decide +kernel
theorem dX2_liveYear_67 : decode cX2_liveYear 67 = .ok (.bipush 99, 2) := by decide +kernel
theorem dX2_liveYear_69 : decode cX2_liveYear 69 = .ok (.if_icmp .le 8, 3) := by decide +kernel
theorem dX2_liveYear_72 : decode cX2_liveYear 72 = .ok (.aload_n 0, 1) := by decide +kernel
theorem dX2_liveYear_73 : decode cX2_liveYear 73 = .ok (.iconst 1, 1) := by decide +kernel
theorem dX2_liveYear_74 : decode cX2_liveYear 74 = .ok (.putfield 9, 3) := by decide +kernel
theorem dX2_liveYear_77 : decode cX2_liveYear 77 = .ok (.iload_n 1, 1) := by decide +kernel
theorem dX2_liveYear_78 : decode cX2_liveYear 78 = .ok (.ireturn, 1) := by decide +kernel
set_option maxRecDepth 20000 in
theorem ggX3_init_X1_init : GoodIn wsX3_init wsX1_init := goodIn_r _ [15, 16, 2, 3, 17, 18, 19, 32, 33] (by decide +kernel) (by decide +kernel)
set_option maxRecDepth 20000 in
theorem gX3_init_X1_init : GoodIn wsX3_init (wsX1_init) := ggX3_init_X1_init
set_option maxRecDepth 20000 in
theorem ggX3_init_X0_init : GoodIn wsX3_init wsX0_init := goodIn_r _ [22, 23, 2, 3, 24, 25, 26, 27, 28, 29, 30, 31, 37, 38, 39, 40, 41, 42, 43, 44, 45, 46, 47, 48, 49, 50] (by decide +kernel) (by decide +kernel)
set_option maxRecDepth 20000 in
theorem gX3_init_X0_init : GoodIn wsX3_init (wsX0_init) := ggX3_init_X0_init
theorem dX3_init_0 : decode cX3_init 0 = .ok (.aload_n 0, 1) := by decide +kernel
theorem dX3_init_1 : decode cX3_init 1 = .ok (.invokespecial 3, 3) := by decide +kernel
theorem dX3_init_4 : decode cX3_init 4 = .ok (.aload_n 0, 1) := by decide +kernel
theorem dX3_init_5 : decode cX3_init 5 = .ok (.new 9, 3) := by decide +kernel
theorem dX3_init_8 : decode cX3_init 8 = .ok (.dup, 1) := by decide +kernel
theorem dX3_init_9 : decode cX3_init 9 = .ok (.invokespecial 11, 3) := by decide +kernel
theorem dX3_init_12 : decode cX3_init 12 = .ok (.putfield 12, 3) := by decide +kernel
theorem dX3_init_15 : decode cX3_init 15 = .ok (.aload_n 0, 1) := by decide +kernel
theorem dX3_init_16 : decode cX3_init 16 = .ok (.new 16, 3) := by decide +kernel
theorem dX3_init_19 : decode cX3_init 19 = .ok (.dup, 1) := by decide +kernel
theorem dX3_init_20 : decode cX3_init 20 = .ok (.aload_n 0, 1) := by decide +kernel
theorem dX3_init_21 : decode cX3_init 21 = .ok (.getfield 12, 3) := by decide +kernel
theorem dX3_init_24 : decode cX3_init 24 = .ok (.invokespecial 18, 3) := by decide +kernel
theorem dX3_init_27 : decode cX3_init 27 = .ok (.putfield 21, 3) := by decide +kernel
theorem dX3_init_30 : decode cX3_init 30 = .ok (.aload_n 0, 1) := by decide +kernel
theorem dX3_init_31 : decode cX3_init 31 = .ok (.new 16, 3) := by decide +kernel
theorem dX3_init_34 : decode cX3_init 34 = .ok (.dup, 1) := by decide +kernel
theorem dX3_init_35 : decode cX3_init 35 = .ok (.aload_n 0, 1) := by decide +kernel
theorem dX3_init_36 : decode cX3_init 36 = .ok (.getfield 12, 3) := by decide +kernel
theorem dX3_init_39 : decode cX3_init 39 = .ok (.invokespecial 18, 3) := by decide +kernel
theorem dX3_init_42 : decode cX3_init 42 = .ok (.putfield 25, 3) := by decide +kernel
theorem dX3_init_45 : decode cX3_init 45 = .ok (.return_, 1) := by decide +kernel
set_option maxRecDepth 20000 in
theorem ggX3_setDeaths_X3_isAge : GoodIn wsX3_setDeaths wsX3_isAge := goodIn_r _ [9] (by decide +kernel) (by decide +kernel)
set_option maxRecDepth 20000 in
theorem gX3_setDeaths_X3_isAge : GoodIn wsX3_setDeaths (va_wsS RX3 28 yX3_isAge wsX3_isAge) := goodIn_app (goodIn_of _ (by decide +kernel)) ggX3_setDeaths_X3_isAge
set_option maxRecDepth 20000 in
theorem ggX3_setDeaths_X1_deathsAt : GoodIn wsX3_setDeaths wsX1_deathsAt := goodIn_r _ [14, 15, 7, 8, 9, 23, 24] (by decide +kernel) (by decide +kernel)
set_option maxRecDepth 20000 in
theorem gX3_setDeaths_X1_deathsAt : GoodIn wsX3_setDeaths (wsV RX3 44 RX1 yX1_deathsAt wsX1_deathsAt) := goodIn_app (goodIn_of _ (by decide +kernel)) ggX3_setDeaths_X1_deathsAt
set_option maxRecDepth 20000 in
theorem ggX3_setDeaths_X1_changeDeaths : GoodIn wsX3_setDeaths wsX1_changeDeaths := goodIn_r _ [19, 15, 7, 8, 9, 23, 24] (by decide +kernel) (by decide +kernel)
set_option maxRecDepth 20000 in
theorem gX3_setDeaths_X1_changeDeaths : GoodIn wsX3_setDeaths (wsV RX3 48 RX1 yX1_changeDeaths wsX1_changeDeaths) := goodIn_app (goodIn_of _ (by decide +kernel)) ggX3_setDeaths_X1_changeDeaths
theorem dX3_setDeaths_0 : decode cX3_setDeaths 0 = .ok (.iload_n 1, 1) := by decide +kernel
theorem dX3_setDeaths_1 : decode cX3_setDeaths 1 = .ok (.invokestatic 28, 3) := by decide +kernel
theorem dX3_setDeaths_4 : decode cX3_setDeaths 4 = .ok (.ifCond .ne 13, 3) := by decide +kernel
theorem dX3_setDeaths_7 : decode cX3_setDeaths 7 = .ok (.new 32, 3) := by decide +kernel
theorem dX3_setDeaths_10 : decode cX3_setDeaths 10 = .ok (.dup, 1) := by decide +kernel
theorem dX3_setDeaths_11 : decode cX3_setDeaths 11 = .ok (.ldc 34, 2) := by decide +kernel
theorem dX3_setDeaths_13 : decode cX3_setDeaths 13 = .ok (.invokespecial 36, 3) := by decide +kernel
theorem dX3_setDeaths_16 : decode cX3_setDeaths 16 = .ok (.athrow, 1) := by decide +kernel
theorem dX3_setDeaths_17 : decode cX3_setDeaths 17 = .ok (.iload_n 2, 1) := by decide +kernel
theorem dX3_setDeaths_18 : decode cX3_setDeaths 18 = .ok (.ifCond .lt 10, 3) := by decide +kernel
theorem dX3_setDeaths_21 : decode cX3_setDeaths 21 = .ok (.iload_n 2, 1) := by decide +kernel
theorem dX3_setDeaths_22 : decode cX3_setDeaths 22 = .ok (.sipush 1000, 3) := by decide +kernel
theorem dX3_setDeaths_25 : decode cX3_setDeaths 25 = .ok (.if_icmp .le 13, 3) := by decide +kernel
theorem dX3_setDeaths_28 : decode cX3_setDeaths 28 = .ok (.new 39, 3) := by decide +kernel
theorem dX3_setDeaths_31 : decode cX3_setDeaths 31 = .ok (.dup, 1) := by decide +kernel
theorem dX3_setDeaths_32 : decode cX3_setDeaths 32 = .ok (.ldc 41, 2) := by decide +kernel
theorem dX3_setDeaths_34 : decode cX3_setDeaths 34 = .ok (.invokespecial 43, 3) := by decide +kernel
theorem dX3_setDeaths_37 : decode cX3_setDeaths 37 = .ok (.athrow, 1) := by decide +kernel
theorem dX3_setDeaths_38 : decode cX3_setDeaths 38 = .ok (.aload_n 0, 1) := by decide +kernel
theorem dX3_setDeaths_39 : decode cX3_setDeaths 39 = .ok (.getfield 12, 3) := by decide +kernel
theorem dX3_setDeaths_42 : decode cX3_setDeaths 42 = .ok (.iload_n 1, 1) := by decide +kernel
theorem dX3_setDeaths_43 : decode cX3_setDeaths 43 = .ok (.invokevirtual 44, 3) := by decide +kernel
theorem dX3_setDeaths_46 : decode cX3_setDeaths 46 = .ok (.istore_n 3, 1) := by decide +kernel
theorem dX3_setDeaths_47 : decode cX3_setDeaths 47 = .ok (.aload_n 0, 1) := by decide +kernel
theorem dX3_setDeaths_48 : decode cX3_setDeaths 48 = .ok (.getfield 12, 3) := by decide +kernel
theorem dX3_setDeaths_51 : decode cX3_setDeaths 51 = .ok (.iload_n 1, 1) := by decide +kernel
theorem dX3_setDeaths_52 : decode cX3_setDeaths 52 = .ok (.iload_n 2, 1) := by decide +kernel
theorem dX3_setDeaths_53 : decode cX3_setDeaths 53 = .ok (.invokevirtual 48, 3) := by decide +kernel
theorem dX3_setDeaths_56 : decode cX3_setDeaths 56 = .ok (.iload_n 3, 1) := by decide +kernel
theorem dX3_setDeaths_57 : decode cX3_setDeaths 57 = .ok (.ireturn, 1) := by decide +kernel
set_option maxRecDepth 20000 in
theorem ggX3_setRate_X1_rate : GoodIn wsX3_setRate wsX1_rate := goodIn_r _ [10, 11, 19, 20] (by decide +kernel) (by decide +kernel)
set_option maxRecDepth 20000 in
theorem gX3_setRate_X1_rate : GoodIn wsX3_setRate (wsV RX3 56 RX1 yX1_rate wsX1_rate) := goodIn_app (goodIn_of _ (by decide +kernel)) ggX3_setRate_X1_rate
set_option maxRecDepth 20000 in
theorem ggX3_setRate_X1_changeRate : GoodIn wsX3_setRate wsX1_changeRate := goodIn_r _ [15, 11, 19, 20] (by decide +kernel) (by decide +kernel)
set_option maxRecDepth 20000 in
theorem gX3_setRate_X1_changeRate : GoodIn wsX3_setRate (wsV RX3 59 RX1 yX1_changeRate wsX1_changeRate) := goodIn_app (goodIn_of _ (by decide +kernel)) ggX3_setRate_X1_changeRate
theorem dX3_setRate_0 : decode cX3_setRate 0 = .ok (.iload_n 1, 1) := by decide +kernel
theorem dX3_setRate_1 : decode cX3_setRate 1 = .ok (.ifCond .lt 8, 3) := by decide +kernel
theorem dX3_setRate_4 : decode cX3_setRate 4 = .ok (.iload_n 1, 1) := by decide +kernel
theorem dX3_setRate_5 : decode cX3_setRate 5 = .ok (.iconst 3, 1) := by decide +kernel
theorem dX3_setRate_6 : decode cX3_setRate 6 = .ok (.if_icmp .lt 13, 3) := by decide +kernel
theorem dX3_setRate_9 : decode cX3_setRate 9 = .ok (.new 32, 3) := by decide +kernel
theorem dX3_setRate_12 : decode cX3_setRate 12 = .ok (.dup, 1) := by decide +kernel
theorem dX3_setRate_13 : decode cX3_setRate 13 = .ok (.ldc 52, 2) := by decide +kernel
theorem dX3_setRate_15 : decode cX3_setRate 15 = .ok (.invokespecial 36, 3) := by decide +kernel
theorem dX3_setRate_18 : decode cX3_setRate 18 = .ok (.athrow, 1) := by decide +kernel
theorem dX3_setRate_19 : decode cX3_setRate 19 = .ok (.iload_n 2, 1) := by decide +kernel
theorem dX3_setRate_20 : decode cX3_setRate 20 = .ok (.ifCond .lt 19, 3) := by decide +kernel
theorem dX3_setRate_23 : decode cX3_setRate 23 = .ok (.iload_n 2, 1) := by decide +kernel
theorem dX3_setRate_24 : decode cX3_setRate 24 = .ok (.iload_n 1, 1) := by decide +kernel
theorem dX3_setRate_25 : decode cX3_setRate 25 = .ok (.ifCond .ne 9, 3) := by decide +kernel
theorem dX3_setRate_28 : decode cX3_setRate 28 = .ok (.sipush 200, 3) := by decide +kernel
theorem dX3_setRate_31 : decode cX3_setRate 31 = .ok (.goto 5, 3) := by decide +kernel
theorem dX3_setRate_34 : decode cX3_setRate 34 = .ok (.bipush 50, 2) := by decide +kernel
theorem dX3_setRate_36 : decode cX3_setRate 36 = .ok (.if_icmp .le 13, 3) := by decide +kernel
theorem dX3_setRate_39 : decode cX3_setRate 39 = .ok (.new 39, 3) := by decide +kernel
theorem dX3_setRate_42 : decode cX3_setRate 42 = .ok (.dup, 1) := by decide +kernel
theorem dX3_setRate_43 : decode cX3_setRate 43 = .ok (.ldc 54, 2) := by decide +kernel
theorem dX3_setRate_45 : decode cX3_setRate 45 = .ok (.invokespecial 43, 3) := by decide +kernel
theorem dX3_setRate_48 : decode cX3_setRate 48 = .ok (.athrow, 1) := by decide +kernel
theorem dX3_setRate_49 : decode cX3_setRate 49 = .ok (.aload_n 0, 1) := by decide +kernel
theorem dX3_setRate_50 : decode cX3_setRate 50 = .ok (.getfield 12, 3) := by decide +kernel
theorem dX3_setRate_53 : decode cX3_setRate 53 = .ok (.iload_n 1, 1) := by decide +kernel
theorem dX3_setRate_54 : decode cX3_setRate 54 = .ok (.invokevirtual 56, 3) := by decide +kernel
theorem dX3_setRate_57 : decode cX3_setRate 57 = .ok (.istore_n 3, 1) := by decide +kernel
theorem dX3_setRate_58 : decode cX3_setRate 58 = .ok (.aload_n 0, 1) := by decide +kernel
theorem dX3_setRate_59 : decode cX3_setRate 59 = .ok (.getfield 12, 3) := by decide +kernel
theorem dX3_setRate_62 : decode cX3_setRate 62 = .ok (.iload_n 1, 1) := by decide +kernel
theorem dX3_setRate_63 : decode cX3_setRate 63 = .ok (.iload_n 2, 1) := by decide +kernel
theorem dX3_setRate_64 : decode cX3_setRate 64 = .ok (.invokevirtual 59, 3) := by decide +kernel
theorem dX3_setRate_67 : decode cX3_setRate 67 = .ok (.iload_n 3, 1) := by decide +kernel
theorem dX3_setRate_68 : decode cX3_setRate 68 = .ok (.ireturn, 1) := by decide +kernel
set_option maxRecDepth 20000 in
theorem ggX3_buy_X3_checkAge : GoodIn wsX3_buy wsX3_checkAge := goodIn_ca (goodIn_r _ [8, 9, 10, 11, 12, 7, 13] (by decide +kernel) (by decide +kernel)) (goodIn_sub (fun _ h => List.mem_cons_of_mem _ (List.mem_append_right _ h)) (by decide +kernel))
set_option maxRecDepth 20000 in
theorem gX3_buy_X3_checkAge : GoodIn wsX3_buy (va_wsS RX3 62 yX3_checkAge wsX3_checkAge) := goodIn_app (goodIn_of _ (by decide +kernel)) ggX3_buy_X3_checkAge
set_option maxRecDepth 20000 in
theorem ggX3_buy_X3_checkSum : GoodIn wsX3_buy wsX3_checkSum := goodIn_ca (goodIn_r _ [16, 9, 10] (by decide +kernel) (by decide +kernel)) (goodIn_sub (fun _ h => List.mem_cons_of_mem _ (List.mem_append_right _ h)) (by decide +kernel))
set_option maxRecDepth 20000 in
theorem gX3_buy_X3_checkSum : GoodIn wsX3_buy (va_wsS RX3 66 yX3_checkSum wsX3_checkSum) := goodIn_app (goodIn_of _ (by decide +kernel)) ggX3_buy_X3_checkSum
set_option maxRecDepth 20000 in
theorem ggX3_buy_X3_checkPutOff : GoodIn wsX3_buy wsX3_checkPutOff := goodIn_ca (goodIn_r _ [19, 9, 10] (by decide +kernel) (by decide +kernel)) (goodIn_sub (fun _ h => List.mem_cons_of_mem _ (List.mem_append_right _ h)) (by decide +kernel))
set_option maxRecDepth 20000 in
theorem gX3_buy_X3_checkPutOff : GoodIn wsX3_buy (va_wsS RX3 69 yX3_checkPutOff wsX3_checkPutOff) := goodIn_app (goodIn_of _ (by decide +kernel)) ggX3_buy_X3_checkPutOff
set_option maxRecDepth 20000 in
theorem ggX3_buy_X0_isFull : GoodIn wsX3_buy wsX0_isFull := goodIn_r _ [24, 25, 76, 77, 78, 79, 80, 81, 82] (by decide +kernel) (by decide +kernel)
set_option maxRecDepth 20000 in
theorem gX3_buy_X0_isFull : GoodIn wsX3_buy (wsV RX3 72 RX0 yX0_isFull wsX0_isFull) := goodIn_app (goodIn_of _ (by decide +kernel)) ggX3_buy_X0_isFull
set_option maxRecDepth 20000 in
theorem ggX3_buy_X1_worthNow : GoodIn wsX3_buy wsX1_worthNow := goodIn_r _ [30, 31, 32, 33, 34, 29, 35, 36, 37, 38, 39, 40, 12, 7, 13, 83, 84] (by decide +kernel) (by decide +kernel)
set_option maxRecDepth 20000 in
theorem gX3_buy_X1_worthNow : GoodIn wsX3_buy (wsV RX3 81 RX1 yX1_worthNow wsX1_worthNow) := goodIn_app (goodIn_of _ (by decide +kernel)) ggX3_buy_X1_worthNow
set_option maxRecDepth 20000 in
theorem ggX3_buy_X1_priceOf : GoodIn wsX3_buy wsX1_priceOf := goodIn_r _ [44, 31, 83, 84] (by decide +kernel) (by decide +kernel)
set_option maxRecDepth 20000 in
theorem gX3_buy_X1_priceOf : GoodIn wsX3_buy (wsV RX3 87 RX1 yX1_priceOf wsX1_priceOf) := goodIn_app (goodIn_of _ (by decide +kernel)) ggX3_buy_X1_priceOf
set_option maxRecDepth 20000 in
theorem ggX3_buy_X0_write : GoodIn wsX3_buy wsX0_write := goodIn_r _ [48, 25, 49, 50, 51, 52, 23, 53, 54, 55, 56, 57, 58, 59, 60, 61, 62, 63, 64, 65, 66, 67, 68, 69, 70, 71, 72, 76, 77, 78, 79, 80, 81, 82, 85, 86, 87, 88, 89, 90, 91] (by decide +kernel) (by decide +kernel)
set_option maxRecDepth 20000 in
theorem gX3_buy_X0_write : GoodIn wsX3_buy (wsV RX3 90 RX0 yX0_write wsX0_write) := goodIn_app (goodIn_of _ (by decide +kernel)) ggX3_buy_X0_write
theorem dX3_buy_0 : decode cX3_buy 0 = .ok (.iload_n 1, 1) := by decide +kernel
theorem dX3_buy_1 : decode cX3_buy 1 = .ok (.invokestatic 62, 3) := by decide +kernel
theorem dX3_buy_4 : decode cX3_buy 4 = .ok (.iload_n 2, 1) := by decide +kernel
theorem dX3_buy_5 : decode cX3_buy 5 = .ok (.invokestatic 66, 3) := by decide +kernel
theorem dX3_buy_8 : decode cX3_buy 8 = .ok (.iload_n 3, 1) := by decide +kernel
theorem dX3_buy_9 : decode cX3_buy 9 = .ok (.invokestatic 69, 3) := by decide +kernel
theorem dX3_buy_12 : decode cX3_buy 12 = .ok (.aload_n 0, 1) := by decide +kernel
theorem dX3_buy_13 : decode cX3_buy 13 = .ok (.getfield 21, 3) := by decide +kernel
theorem dX3_buy_16 : decode cX3_buy 16 = .ok (.invokevirtual 72, 3) := by decide +kernel
theorem dX3_buy_19 : decode cX3_buy 19 = .ok (.ifCond .eq 13, 3) := by decide +kernel
theorem dX3_buy_22 : decode cX3_buy 22 = .ok (.new 76, 3) := by decide +kernel
theorem dX3_buy_25 : decode cX3_buy 25 = .ok (.dup, 1) := by decide +kernel
theorem dX3_buy_26 : decode cX3_buy 26 = .ok (.ldc 78, 2) := by decide +kernel
theorem dX3_buy_28 : decode cX3_buy 28 = .ok (.invokespecial 80, 3) := by decide +kernel
theorem dX3_buy_31 : decode cX3_buy 31 = .ok (.athrow, 1) := by decide +kernel
theorem dX3_buy_32 : decode cX3_buy 32 = .ok (.aload_n 0, 1) := by decide +kernel
theorem dX3_buy_33 : decode cX3_buy 33 = .ok (.getfield 12, 3) := by decide +kernel
theorem dX3_buy_36 : decode cX3_buy 36 = .ok (.iload_n 1, 1) := by decide +kernel
theorem dX3_buy_37 : decode cX3_buy 37 = .ok (.iload_n 3, 1) := by decide +kernel
theorem dX3_buy_38 : decode cX3_buy 38 = .ok (.invokevirtual 81, 3) := by decide +kernel
theorem dX3_buy_41 : decode cX3_buy 41 = .ok (.istore 4, 2) := by decide +kernel
theorem dX3_buy_43 : decode cX3_buy 43 = .ok (.iload 4, 2) := by decide +kernel
theorem dX3_buy_45 : decode cX3_buy 45 = .ok (.ifCond .ne 13, 3) := by decide +kernel
theorem dX3_buy_48 : decode cX3_buy 48 = .ok (.new 76, 3) := by decide +kernel
theorem dX3_buy_51 : decode cX3_buy 51 = .ok (.dup, 1) := by decide +kernel
theorem dX3_buy_52 : decode cX3_buy 52 = .ok (.ldc 85, 2) := by decide +kernel
theorem dX3_buy_54 : decode cX3_buy 54 = .ok (.invokespecial 80, 3) := by decide +kernel
theorem dX3_buy_57 : decode cX3_buy 57 = .ok (.athrow, 1) := by decide +kernel
theorem dX3_buy_58 : decode cX3_buy 58 = .ok (.aload_n 0, 1) := by decide +kernel
theorem dX3_buy_59 : decode cX3_buy 59 = .ok (.getfield 21, 3) := by decide +kernel
theorem dX3_buy_62 : decode cX3_buy 62 = .ok (.iload_n 1, 1) := by decide +kernel
theorem dX3_buy_63 : decode cX3_buy 63 = .ok (.iload_n 2, 1) := by decide +kernel
theorem dX3_buy_64 : decode cX3_buy 64 = .ok (.iload_n 3, 1) := by decide +kernel
theorem dX3_buy_65 : decode cX3_buy 65 = .ok (.aload_n 0, 1) := by decide +kernel
theorem dX3_buy_66 : decode cX3_buy 66 = .ok (.getfield 12, 3) := by decide +kernel
theorem dX3_buy_69 : decode cX3_buy 69 = .ok (.iload_n 2, 1) := by decide +kernel
theorem dX3_buy_70 : decode cX3_buy 70 = .ok (.iload 4, 2) := by decide +kernel
theorem dX3_buy_72 : decode cX3_buy 72 = .ok (.invokevirtual 87, 3) := by decide +kernel
theorem dX3_buy_75 : decode cX3_buy 75 = .ok (.invokevirtual 90, 3) := by decide +kernel
theorem dX3_buy_78 : decode cX3_buy 78 = .ok (.ireturn, 1) := by decide +kernel
set_option maxRecDepth 20000 in
theorem ggX3_die_X3_checkWidow : GoodIn wsX3_die wsX3_checkWidow := goodIn_ca (goodIn_r _ [10, 11, 12, 3, 13, 51, 52, 53, 61, 62, 63, 64, 65, 66, 67] (by decide +kernel) (by decide +kernel)) (goodIn_sub (fun _ h => List.mem_cons_of_mem _ (List.mem_append_right _ h)) (by decide +kernel))
set_option maxRecDepth 20000 in
theorem gX3_die_X3_checkWidow : GoodIn wsX3_die (wsV RX3 94 RX3 yX3_checkWidow wsX3_checkWidow) := goodIn_app (goodIn_of _ (by decide +kernel)) ggX3_die_X3_checkWidow
set_option maxRecDepth 20000 in
theorem ggX3_die_X0_widowAt : GoodIn wsX3_die wsX0_widowAt := goodIn_r _ [18, 19, 61, 62, 63, 64, 65, 66, 67] (by decide +kernel) (by decide +kernel)
set_option maxRecDepth 20000 in
theorem gX3_die_X0_widowAt : GoodIn wsX3_die (wsV RX3 97 RX0 yX0_widowAt wsX0_widowAt) := goodIn_app (goodIn_of _ (by decide +kernel)) ggX3_die_X0_widowAt
set_option maxRecDepth 20000 in
theorem ggX3_die_X2_lives : GoodIn wsX3_die wsX2_lives := goodIn_r _ [24, 25, 54, 55, 56, 57, 58, 59, 60] (by decide +kernel) (by decide +kernel)
set_option maxRecDepth 20000 in
theorem gX3_die_X2_lives : GoodIn wsX3_die (wsV RX3 101 RX2 yX2_lives wsX2_lives) := goodIn_app (goodIn_of _ (by decide +kernel)) ggX3_die_X2_lives
set_option maxRecDepth 20000 in
theorem ggX3_die_X1_keptNow : GoodIn wsX3_die wsX1_keptNow := goodIn_r _ [30, 31, 32, 33, 34, 29, 35, 36, 37, 38, 39, 21, 22, 23, 24, 25, 40, 41, 42, 43, 44, 45, 46, 47, 48, 49, 9, 50, 68, 69, 54, 55, 56, 57, 58, 59, 60] (by decide +kernel) (by decide +kernel)
set_option maxRecDepth 20000 in
theorem gX3_die_X1_keptNow : GoodIn wsX3_die (wsV RX3 108 RX1 yX1_keptNow wsX1_keptNow) := goodIn_app (goodIn_of _ (by decide +kernel)) ggX3_die_X1_keptNow
theorem dX3_die_0 : decode cX3_die 0 = .ok (.aload_n 0, 1) := by decide +kernel
theorem dX3_die_1 : decode cX3_die 1 = .ok (.iload_n 1, 1) := by decide +kernel
theorem dX3_die_2 : decode cX3_die 2 = .ok (.invokevirtual 94, 3) := by decide +kernel
theorem dX3_die_5 : decode cX3_die 5 = .ok (.aload_n 0, 1) := by decide +kernel
theorem dX3_die_6 : decode cX3_die 6 = .ok (.getfield 21, 3) := by decide +kernel
theorem dX3_die_9 : decode cX3_die 9 = .ok (.iload_n 1, 1) := by decide +kernel
theorem dX3_die_10 : decode cX3_die 10 = .ok (.invokevirtual 97, 3) := by decide +kernel
theorem dX3_die_13 : decode cX3_die 13 = .ok (.astore_n 2, 1) := by decide +kernel
theorem dX3_die_14 : decode cX3_die 14 = .ok (.aload_n 2, 1) := by decide +kernel
theorem dX3_die_15 : decode cX3_die 15 = .ok (.invokevirtual 101, 3) := by decide +kernel
theorem dX3_die_18 : decode cX3_die 18 = .ok (.ifCond .ne 13, 3) := by decide +kernel
theorem dX3_die_21 : decode cX3_die 21 = .ok (.new 76, 3) := by decide +kernel
theorem dX3_die_24 : decode cX3_die 24 = .ok (.dup, 1) := by decide +kernel
theorem dX3_die_25 : decode cX3_die 25 = .ok (.ldc 106, 2) := by decide +kernel
theorem dX3_die_27 : decode cX3_die 27 = .ok (.invokespecial 80, 3) := by decide +kernel
theorem dX3_die_30 : decode cX3_die 30 = .ok (.athrow, 1) := by decide +kernel
theorem dX3_die_31 : decode cX3_die 31 = .ok (.aload_n 0, 1) := by decide +kernel
theorem dX3_die_32 : decode cX3_die 32 = .ok (.getfield 12, 3) := by decide +kernel
theorem dX3_die_35 : decode cX3_die 35 = .ok (.aload_n 2, 1) := by decide +kernel
theorem dX3_die_36 : decode cX3_die 36 = .ok (.invokevirtual 108, 3) := by decide +kernel
theorem dX3_die_39 : decode cX3_die 39 = .ok (.istore_n 3, 1) := by decide +kernel
theorem dX3_die_40 : decode cX3_die 40 = .ok (.aload_n 2, 1) := by decide +kernel
theorem dX3_die_41 : decode cX3_die 41 = .ok (.iconst 1, 1) := by decide +kernel
theorem dX3_die_42 : decode cX3_die 42 = .ok (.putfield 112, 3) := by decide +kernel
theorem dX3_die_45 : decode cX3_die 45 = .ok (.iload_n 3, 1) := by decide +kernel
theorem dX3_die_46 : decode cX3_die 46 = .ok (.ireturn, 1) := by decide +kernel
set_option maxRecDepth 20000 in
theorem ggX3_giveUp_X3_checkWidow : GoodIn wsX3_giveUp wsX3_checkWidow := goodIn_ca (goodIn_r _ [11, 12, 13, 3, 14, 68, 69, 70, 78, 79, 80, 81, 82, 83, 84] (by decide +kernel) (by decide +kernel)) (goodIn_sub (fun _ h => List.mem_cons_of_mem _ (List.mem_append_right _ h)) (by decide +kernel))
set_option maxRecDepth 20000 in
theorem gX3_giveUp_X3_checkWidow : GoodIn wsX3_giveUp (wsV RX3 94 RX3 yX3_checkWidow wsX3_checkWidow) := goodIn_app (goodIn_of _ (by decide +kernel)) ggX3_giveUp_X3_checkWidow
set_option maxRecDepth 20000 in
theorem ggX3_giveUp_X0_widowAt : GoodIn wsX3_giveUp wsX0_widowAt := goodIn_r _ [19, 20, 78, 79, 80, 81, 82, 83, 84] (by decide +kernel) (by decide +kernel)
set_option maxRecDepth 20000 in
theorem gX3_giveUp_X0_widowAt : GoodIn wsX3_giveUp (wsV RX3 97 RX0 yX0_widowAt wsX0_widowAt) := goodIn_app (goodIn_of _ (by decide +kernel)) ggX3_giveUp_X0_widowAt
set_option maxRecDepth 20000 in
theorem ggX3_giveUp_X2_canGiveUp : GoodIn wsX3_giveUp wsX2_canGiveUp := goodIn_r _ [25, 26, 27, 28, 29, 24, 30, 31, 71, 72, 73, 74, 75, 76, 77] (by decide +kernel) (by decide +kernel)
set_option maxRecDepth 20000 in
theorem gX3_giveUp_X2_canGiveUp : GoodIn wsX3_giveUp (wsV RX3 116 RX2 yX2_canGiveUp wsX2_canGiveUp) := goodIn_app (goodIn_of _ (by decide +kernel)) ggX3_giveUp_X2_canGiveUp
set_option maxRecDepth 20000 in
theorem ggX3_giveUp_X1_givenBack : GoodIn wsX3_giveUp wsX1_givenBack := goodIn_r _ [36, 37, 38, 22, 23, 24, 25, 26, 27, 28, 29, 30, 31, 39, 40, 41, 35, 42, 43, 44, 45, 46, 47, 48, 49, 50, 51, 52, 53, 54, 55, 56, 57, 58, 59, 60, 10, 61, 85, 86, 71, 72, 73, 74, 75, 76, 77] (by decide +kernel) (by decide +kernel)
set_option maxRecDepth 20000 in
theorem gX3_giveUp_X1_givenBack : GoodIn wsX3_giveUp (wsV RX3 121 RX1 yX1_givenBack wsX1_givenBack) := goodIn_app (goodIn_of _ (by decide +kernel)) ggX3_giveUp_X1_givenBack
set_option maxRecDepth 20000 in
theorem ggX3_giveUp_X0_payOut : GoodIn wsX3_giveUp wsX0_payOut := goodIn_r _ [65, 66, 67, 78, 79, 80, 81, 82, 83, 84] (by decide +kernel) (by decide +kernel)
set_option maxRecDepth 20000 in
theorem gX3_giveUp_X0_payOut : GoodIn wsX3_giveUp (wsV RX3 127 RX0 yX0_payOut wsX0_payOut) := goodIn_app (goodIn_of _ (by decide +kernel)) ggX3_giveUp_X0_payOut
theorem dX3_giveUp_0 : decode cX3_giveUp 0 = .ok (.aload_n 0, 1) := by decide +kernel
theorem dX3_giveUp_1 : decode cX3_giveUp 1 = .ok (.iload_n 1, 1) := by decide +kernel
theorem dX3_giveUp_2 : decode cX3_giveUp 2 = .ok (.invokevirtual 94, 3) := by decide +kernel
theorem dX3_giveUp_5 : decode cX3_giveUp 5 = .ok (.aload_n 0, 1) := by decide +kernel
theorem dX3_giveUp_6 : decode cX3_giveUp 6 = .ok (.getfield 21, 3) := by decide +kernel
theorem dX3_giveUp_9 : decode cX3_giveUp 9 = .ok (.iload_n 1, 1) := by decide +kernel
theorem dX3_giveUp_10 : decode cX3_giveUp 10 = .ok (.invokevirtual 97, 3) := by decide +kernel
theorem dX3_giveUp_13 : decode cX3_giveUp 13 = .ok (.astore_n 2, 1) := by decide +kernel
theorem dX3_giveUp_14 : decode cX3_giveUp 14 = .ok (.aload_n 2, 1) := by decide +kernel
theorem dX3_giveUp_15 : decode cX3_giveUp 15 = .ok (.invokevirtual 116, 3) := by decide +kernel
theorem dX3_giveUp_18 : decode cX3_giveUp 18 = .ok (.ifCond .ne 13, 3) := by decide +kernel
theorem dX3_giveUp_21 : decode cX3_giveUp 21 = .ok (.new 76, 3) := by decide +kernel
theorem dX3_giveUp_24 : decode cX3_giveUp 24 = .ok (.dup, 1) := by decide +kernel
theorem dX3_giveUp_25 : decode cX3_giveUp 25 = .ok (.ldc 119, 2) := by decide +kernel
theorem dX3_giveUp_27 : decode cX3_giveUp 27 = .ok (.invokespecial 80, 3) := by decide +kernel
theorem dX3_giveUp_30 : decode cX3_giveUp 30 = .ok (.athrow, 1) := by decide +kernel
theorem dX3_giveUp_31 : decode cX3_giveUp 31 = .ok (.aload_n 0, 1) := by decide +kernel
theorem dX3_giveUp_32 : decode cX3_giveUp 32 = .ok (.getfield 12, 3) := by decide +kernel
theorem dX3_giveUp_35 : decode cX3_giveUp 35 = .ok (.aload_n 2, 1) := by decide +kernel
theorem dX3_giveUp_36 : decode cX3_giveUp 36 = .ok (.invokevirtual 121, 3) := by decide +kernel
theorem dX3_giveUp_39 : decode cX3_giveUp 39 = .ok (.istore_n 3, 1) := by decide +kernel
theorem dX3_giveUp_40 : decode cX3_giveUp 40 = .ok (.aload_n 2, 1) := by decide +kernel
theorem dX3_giveUp_41 : decode cX3_giveUp 41 = .ok (.iconst 2, 1) := by decide +kernel
theorem dX3_giveUp_42 : decode cX3_giveUp 42 = .ok (.putfield 112, 3) := by decide +kernel
theorem dX3_giveUp_45 : decode cX3_giveUp 45 = .ok (.aload_n 2, 1) := by decide +kernel
theorem dX3_giveUp_46 : decode cX3_giveUp 46 = .ok (.dup, 1) := by decide +kernel
theorem dX3_giveUp_47 : decode cX3_giveUp 47 = .ok (.getfield 124, 3) := by decide +kernel
theorem dX3_giveUp_50 : decode cX3_giveUp 50 = .ok (.iload_n 3, 1) := by decide +kernel
theorem dX3_giveUp_51 : decode cX3_giveUp 51 = .ok (.iadd, 1) := by decide +kernel
theorem dX3_giveUp_52 : decode cX3_giveUp 52 = .ok (.putfield 124, 3) := by decide +kernel
theorem dX3_giveUp_55 : decode cX3_giveUp 55 = .ok (.aload_n 0, 1) := by decide +kernel
theorem dX3_giveUp_56 : decode cX3_giveUp 56 = .ok (.getfield 21, 3) := by decide +kernel
theorem dX3_giveUp_59 : decode cX3_giveUp 59 = .ok (.iload_n 3, 1) := by decide +kernel
theorem dX3_giveUp_60 : decode cX3_giveUp 60 = .ok (.invokevirtual 127, 3) := by decide +kernel
theorem dX3_giveUp_63 : decode cX3_giveUp 63 = .ok (.iload_n 3, 1) := by decide +kernel
theorem dX3_giveUp_64 : decode cX3_giveUp 64 = .ok (.ireturn, 1) := by decide +kernel
set_option maxRecDepth 20000 in
theorem ggX3_put_X0_takeIn : GoodIn wsX3_put wsX0_takeIn := goodIn_r _ [11, 12, 13, 17, 18, 19, 20, 21, 22, 23] (by decide +kernel) (by decide +kernel)
set_option maxRecDepth 20000 in
theorem gX3_put_X0_takeIn : GoodIn wsX3_put (wsV RX3 134 RX0 yX0_takeIn wsX0_takeIn) := goodIn_app (goodIn_of _ (by decide +kernel)) ggX3_put_X0_takeIn
theorem dX3_put_0 : decode cX3_put 0 = .ok (.iload_n 1, 1) := by decide +kernel
theorem dX3_put_1 : decode cX3_put 1 = .ok (.ldc 130, 2) := by decide +kernel
theorem dX3_put_3 : decode cX3_put 3 = .ok (.if_icmp .lt 9, 3) := by decide +kernel
theorem dX3_put_6 : decode cX3_put 6 = .ok (.iload_n 1, 1) := by decide +kernel
theorem dX3_put_7 : decode cX3_put 7 = .ok (.ldc 131, 2) := by decide +kernel
theorem dX3_put_9 : decode cX3_put 9 = .ok (.if_icmp .le 13, 3) := by decide +kernel
theorem dX3_put_12 : decode cX3_put 12 = .ok (.new 39, 3) := by decide +kernel
theorem dX3_put_15 : decode cX3_put 15 = .ok (.dup, 1) := by decide +kernel
theorem dX3_put_16 : decode cX3_put 16 = .ok (.ldc 132, 2) := by decide +kernel
theorem dX3_put_18 : decode cX3_put 18 = .ok (.invokespecial 43, 3) := by decide +kernel
theorem dX3_put_21 : decode cX3_put 21 = .ok (.athrow, 1) := by decide +kernel
theorem dX3_put_22 : decode cX3_put 22 = .ok (.aload_n 0, 1) := by decide +kernel
theorem dX3_put_23 : decode cX3_put 23 = .ok (.getfield 21, 3) := by decide +kernel
theorem dX3_put_26 : decode cX3_put 26 = .ok (.iload_n 1, 1) := by decide +kernel
theorem dX3_put_27 : decode cX3_put 27 = .ok (.invokevirtual 134, 3) := by decide +kernel
theorem dX3_put_30 : decode cX3_put 30 = .ok (.aload_n 0, 1) := by decide +kernel
theorem dX3_put_31 : decode cX3_put 31 = .ok (.getfield 21, 3) := by decide +kernel
theorem dX3_put_34 : decode cX3_put 34 = .ok (.getfield 137, 3) := by decide +kernel
theorem dX3_put_37 : decode cX3_put 37 = .ok (.ireturn, 1) := by decide +kernel
set_option maxRecDepth 20000 in
theorem ggX3_worth_X3_checkAge : GoodIn wsX3_worth wsX3_checkAge := goodIn_ca (goodIn_r _ [5, 6, 7, 8, 9, 4, 10] (by decide +kernel) (by decide +kernel)) (goodIn_sub (fun _ h => List.mem_cons_of_mem _ (List.mem_append_right _ h)) (by decide +kernel))
set_option maxRecDepth 20000 in
theorem gX3_worth_X3_checkAge : GoodIn wsX3_worth (va_wsS RX3 62 yX3_checkAge wsX3_checkAge) := goodIn_app (goodIn_of _ (by decide +kernel)) ggX3_worth_X3_checkAge
set_option maxRecDepth 20000 in
theorem ggX3_worth_X3_checkPutOff : GoodIn wsX3_worth wsX3_checkPutOff := goodIn_ca (goodIn_r _ [13, 6, 7] (by decide +kernel) (by decide +kernel)) (goodIn_sub (fun _ h => List.mem_cons_of_mem _ (List.mem_append_right _ h)) (by decide +kernel))
set_option maxRecDepth 20000 in
theorem gX3_worth_X3_checkPutOff : GoodIn wsX3_worth (va_wsS RX3 69 yX3_checkPutOff wsX3_checkPutOff) := goodIn_app (goodIn_of _ (by decide +kernel)) ggX3_worth_X3_checkPutOff
set_option maxRecDepth 20000 in
theorem ggX3_worth_X1_worthNow : GoodIn wsX3_worth wsX1_worthNow := goodIn_r _ [18, 19, 20, 21, 22, 17, 23, 24, 25, 26, 27, 28, 9, 4, 10, 32, 33] (by decide +kernel) (by decide +kernel)
set_option maxRecDepth 20000 in
theorem gX3_worth_X1_worthNow : GoodIn wsX3_worth (wsV RX3 81 RX1 yX1_worthNow wsX1_worthNow) := goodIn_app (goodIn_of _ (by decide +kernel)) ggX3_worth_X1_worthNow
theorem dX3_worth_0 : decode cX3_worth 0 = .ok (.iload_n 1, 1) := by decide +kernel
theorem dX3_worth_1 : decode cX3_worth 1 = .ok (.invokestatic 62, 3) := by decide +kernel
theorem dX3_worth_4 : decode cX3_worth 4 = .ok (.iload_n 2, 1) := by decide +kernel
theorem dX3_worth_5 : decode cX3_worth 5 = .ok (.invokestatic 69, 3) := by decide +kernel
theorem dX3_worth_8 : decode cX3_worth 8 = .ok (.aload_n 0, 1) := by decide +kernel
theorem dX3_worth_9 : decode cX3_worth 9 = .ok (.getfield 12, 3) := by decide +kernel
theorem dX3_worth_12 : decode cX3_worth 12 = .ok (.iload_n 1, 1) := by decide +kernel
theorem dX3_worth_13 : decode cX3_worth 13 = .ok (.iload_n 2, 1) := by decide +kernel
theorem dX3_worth_14 : decode cX3_worth 14 = .ok (.invokevirtual 81, 3) := by decide +kernel
theorem dX3_worth_17 : decode cX3_worth 17 = .ok (.ireturn, 1) := by decide +kernel
set_option maxRecDepth 20000 in
theorem ggX3_price_X3_checkAge : GoodIn wsX3_price wsX3_checkAge := goodIn_ca (goodIn_r _ [5, 6, 7, 8, 9, 4, 10] (by decide +kernel) (by decide +kernel)) (goodIn_sub (fun _ h => List.mem_cons_of_mem _ (List.mem_append_right _ h)) (by decide +kernel))
set_option maxRecDepth 20000 in
theorem gX3_price_X3_checkAge : GoodIn wsX3_price (va_wsS RX3 62 yX3_checkAge wsX3_checkAge) := goodIn_app (goodIn_of _ (by decide +kernel)) ggX3_price_X3_checkAge
set_option maxRecDepth 20000 in
theorem ggX3_price_X3_checkSum : GoodIn wsX3_price wsX3_checkSum := goodIn_ca (goodIn_r _ [13, 6, 7] (by decide +kernel) (by decide +kernel)) (goodIn_sub (fun _ h => List.mem_cons_of_mem _ (List.mem_append_right _ h)) (by decide +kernel))
set_option maxRecDepth 20000 in
theorem gX3_price_X3_checkSum : GoodIn wsX3_price (va_wsS RX3 66 yX3_checkSum wsX3_checkSum) := goodIn_app (goodIn_of _ (by decide +kernel)) ggX3_price_X3_checkSum
set_option maxRecDepth 20000 in
theorem ggX3_price_X3_checkPutOff : GoodIn wsX3_price wsX3_checkPutOff := goodIn_ca (goodIn_r _ [16, 6, 7] (by decide +kernel) (by decide +kernel)) (goodIn_sub (fun _ h => List.mem_cons_of_mem _ (List.mem_append_right _ h)) (by decide +kernel))
end
section
set_option maxRecDepth 20000 in
theorem gX3_price_X3_checkPutOff : GoodIn wsX3_price (va_wsS RX3 69 yX3_checkPutOff wsX3_checkPutOff) := goodIn_app (goodIn_of _ (by decide +kernel)) ggX3_price_X3_checkPutOff
set_option maxRecDepth 20000 in
theorem ggX3_price_X1_worthNow : GoodIn wsX3_price wsX1_worthNow := goodIn_r _ [21, 22, 23, 24, 25, 20, 26, 27, 28, 29, 30, 31, 9, 4, 10, 39, 40] (by decide +kernel) (by decide +kernel)
set_option maxRecDepth 20000 in
theorem gX3_price_X1_worthNow : GoodIn wsX3_price (wsV RX3 81 RX1 yX1_worthNow wsX1_worthNow) := goodIn_app (goodIn_of _ (by decide +kernel)) ggX3_price_X1_worthNow
set_option maxRecDepth 20000 in
theorem ggX3_price_X1_priceOf : GoodIn wsX3_price wsX1_priceOf := goodIn_r _ [35, 22, 39, 40] (by decide +kernel) (by decide +kernel)
set_option maxRecDepth 20000 in
theorem gX3_price_X1_priceOf : GoodIn wsX3_price (wsV RX3 87 RX1 yX1_priceOf wsX1_priceOf) := goodIn_app (goodIn_of _ (by decide +kernel)) ggX3_price_X1_priceOf
theorem dX3_price_0 : decode cX3_price 0 = .ok (.iload_n 1, 1) := by decide +kernel
theorem dX3_price_1 : decode cX3_price 1 = .ok (.invokestatic 62, 3) := by decide +kernel
theorem dX3_price_4 : decode cX3_price 4 = .ok (.iload_n 2, 1) := by decide +kernel
theorem dX3_price_5 : decode cX3_price 5 = .ok (.invokestatic 66, 3) := by decide +kernel
theorem dX3_price_8 : decode cX3_price 8 = .ok (.iload_n 3, 1) := by decide +kernel
theorem dX3_price_9 : decode cX3_price 9 = .ok (.invokestatic 69, 3) := by decide +kernel
theorem dX3_price_12 : decode cX3_price 12 = .ok (.aload_n 0, 1) := by decide +kernel
theorem dX3_price_13 : decode cX3_price 13 = .ok (.getfield 12, 3) := by decide +kernel
theorem dX3_price_16 : decode cX3_price 16 = .ok (.iload_n 2, 1) := by decide +kernel
theorem dX3_price_17 : decode cX3_price 17 = .ok (.aload_n 0, 1) := by decide +kernel
theorem dX3_price_18 : decode cX3_price 18 = .ok (.getfield 12, 3) := by decide +kernel
theorem dX3_price_21 : decode cX3_price 21 = .ok (.iload_n 1, 1) := by decide +kernel
theorem dX3_price_22 : decode cX3_price 22 = .ok (.iload_n 3, 1) := by decide +kernel
theorem dX3_price_23 : decode cX3_price 23 = .ok (.invokevirtual 81, 3) := by decide +kernel
theorem dX3_price_26 : decode cX3_price 26 = .ok (.invokevirtual 87, 3) := by decide +kernel
theorem dX3_price_29 : decode cX3_price 29 = .ok (.ireturn, 1) := by decide +kernel
set_option maxRecDepth 20000 in
theorem ggX3_told_X3_checkWidow : GoodIn wsX3_told wsX3_checkWidow := goodIn_ca (goodIn_r _ [9, 1, 2, 4, 10, 65, 66, 67, 68, 69, 70, 71, 72, 73, 74] (by decide +kernel) (by decide +kernel)) (goodIn_sub (fun _ h => List.mem_cons_of_mem _ (List.mem_append_right _ h)) (by decide +kernel))
set_option maxRecDepth 20000 in
theorem gX3_told_X3_checkWidow : GoodIn wsX3_told (wsV RX3 94 RX3 yX3_checkWidow wsX3_checkWidow) := goodIn_app (goodIn_of _ (by decide +kernel)) ggX3_told_X3_checkWidow
set_option maxRecDepth 20000 in
theorem ggX3_told_X0_widowAt : GoodIn wsX3_told wsX0_widowAt := goodIn_r _ [15, 16, 68, 69, 70, 71, 72, 73, 74] (by decide +kernel) (by decide +kernel)
set_option maxRecDepth 20000 in
theorem gX3_told_X0_widowAt : GoodIn wsX3_told (wsV RX3 97 RX0 yX0_widowAt wsX0_widowAt) := goodIn_app (goodIn_of _ (by decide +kernel)) ggX3_told_X0_widowAt
set_option maxRecDepth 20000 in
theorem ggX3_told_X1_tellOf : GoodIn wsX3_told wsX1_tellOf := goodIn_r _ [21, 22, 23, 24, 25, 26, 27, 28, 29, 30, 31, 20, 32, 33, 34, 35, 36, 37, 38, 39, 40, 41, 42, 43, 44, 45, 46, 47, 48, 49, 50, 51, 52, 53, 8, 54, 55, 56, 57, 58, 59, 60, 61, 62, 63, 64, 75, 76, 77, 78, 79, 80, 81, 82, 83] (by decide +kernel) (by decide +kernel)
set_option maxRecDepth 20000 in
theorem gX3_told_X1_tellOf : GoodIn wsX3_told (wsV RX3 142 RX1 yX1_tellOf wsX1_tellOf) := goodIn_app (goodIn_of _ (by decide +kernel)) ggX3_told_X1_tellOf
theorem dX3_told_0 : decode cX3_told 0 = .ok (.aload_n 0, 1) := by decide +kernel
theorem dX3_told_1 : decode cX3_told 1 = .ok (.iload_n 1, 1) := by decide +kernel
theorem dX3_told_2 : decode cX3_told 2 = .ok (.invokevirtual 94, 3) := by decide +kernel
theorem dX3_told_5 : decode cX3_told 5 = .ok (.iload_n 2, 1) := by decide +kernel
theorem dX3_told_6 : decode cX3_told 6 = .ok (.ifCond .lt 9, 3) := by decide +kernel
theorem dX3_told_9 : decode cX3_told 9 = .ok (.iload_n 2, 1) := by decide +kernel
theorem dX3_told_10 : decode cX3_told 10 = .ok (.bipush 9, 2) := by decide +kernel
theorem dX3_told_12 : decode cX3_told 12 = .ok (.if_icmp .lt 13, 3) := by decide +kernel
theorem dX3_told_15 : decode cX3_told 15 = .ok (.new 32, 3) := by decide +kernel
theorem dX3_told_18 : decode cX3_told 18 = .ok (.dup, 1) := by decide +kernel
theorem dX3_told_19 : decode cX3_told 19 = .ok (.ldc 140, 2) := by decide +kernel
theorem dX3_told_21 : decode cX3_told 21 = .ok (.invokespecial 36, 3) := by decide +kernel
theorem dX3_told_24 : decode cX3_told 24 = .ok (.athrow, 1) := by decide +kernel
theorem dX3_told_25 : decode cX3_told 25 = .ok (.aload_n 0, 1) := by decide +kernel
theorem dX3_told_26 : decode cX3_told 26 = .ok (.getfield 12, 3) := by decide +kernel
theorem dX3_told_29 : decode cX3_told 29 = .ok (.aload_n 0, 1) := by decide +kernel
theorem dX3_told_30 : decode cX3_told 30 = .ok (.getfield 21, 3) := by decide +kernel
theorem dX3_told_33 : decode cX3_told 33 = .ok (.iload_n 1, 1) := by decide +kernel
theorem dX3_told_34 : decode cX3_told 34 = .ok (.invokevirtual 97, 3) := by decide +kernel
theorem dX3_told_37 : decode cX3_told 37 = .ok (.iload_n 2, 1) := by decide +kernel
theorem dX3_told_38 : decode cX3_told 38 = .ok (.invokevirtual 142, 3) := by decide +kernel
theorem dX3_told_41 : decode cX3_told 41 = .ok (.ireturn, 1) := by decide +kernel
set_option maxRecDepth 20000 in
theorem ggX3_count_X0_tell : GoodIn wsX3_count wsX0_tell := goodIn_r _ [8, 9, 10, 11, 12, 13, 14, 15, 16, 17, 7, 18, 19, 20, 21, 22, 23, 24, 25, 26, 27, 28, 29, 30, 31, 32, 33, 34, 35, 36, 37, 38, 39, 40, 41, 42, 43, 44, 45, 46, 47, 48, 49, 50, 51, 52, 53, 54, 55, 56, 57, 58, 59, 60, 61, 62, 63, 64, 65, 69, 70, 71, 72, 73, 74, 75, 76, 77, 78, 79, 80, 81, 82, 83, 84] (by decide +kernel) (by decide +kernel)
set_option maxRecDepth 20000 in
theorem gX3_count_X0_tell : GoodIn wsX3_count (wsV RX3 146 RX0 yX0_tell wsX0_tell) := goodIn_app (goodIn_of _ (by decide +kernel)) ggX3_count_X0_tell
theorem dX3_count_0 : decode cX3_count 0 = .ok (.iload_n 1, 1) := by decide +kernel
theorem dX3_count_1 : decode cX3_count 1 = .ok (.ifCond .lt 9, 3) := by decide +kernel
theorem dX3_count_4 : decode cX3_count 4 = .ok (.iload_n 1, 1) := by decide +kernel
theorem dX3_count_5 : decode cX3_count 5 = .ok (.bipush 9, 2) := by decide +kernel
theorem dX3_count_7 : decode cX3_count 7 = .ok (.if_icmp .lt 13, 3) := by decide +kernel
theorem dX3_count_10 : decode cX3_count 10 = .ok (.new 32, 3) := by decide +kernel
theorem dX3_count_13 : decode cX3_count 13 = .ok (.dup, 1) := by decide +kernel
theorem dX3_count_14 : decode cX3_count 14 = .ok (.ldc 140, 2) := by decide +kernel
theorem dX3_count_16 : decode cX3_count 16 = .ok (.invokespecial 36, 3) := by decide +kernel
theorem dX3_count_19 : decode cX3_count 19 = .ok (.athrow, 1) := by decide +kernel
theorem dX3_count_20 : decode cX3_count 20 = .ok (.aload_n 0, 1) := by decide +kernel
theorem dX3_count_21 : decode cX3_count 21 = .ok (.getfield 21, 3) := by decide +kernel
theorem dX3_count_24 : decode cX3_count 24 = .ok (.iload_n 1, 1) := by decide +kernel
theorem dX3_count_25 : decode cX3_count 25 = .ok (.invokevirtual 146, 3) := by decide +kernel
theorem dX3_count_28 : decode cX3_count 28 = .ok (.ireturn, 1) := by decide +kernel
set_option maxRecDepth 20000 in
theorem ggX3_alive_X3_checkAge : GoodIn wsX3_alive wsX3_checkAge := goodIn_ca (goodIn_r _ [7, 1, 2, 8, 9, 6, 10] (by decide +kernel) (by decide +kernel)) (goodIn_sub (fun _ h => List.mem_cons_of_mem _ (List.mem_append_right _ h)) (by decide +kernel))
set_option maxRecDepth 20000 in
theorem gX3_alive_X3_checkAge : GoodIn wsX3_alive (va_wsS RX3 62 yX3_checkAge wsX3_checkAge) := goodIn_app (goodIn_of _ (by decide +kernel)) ggX3_alive_X3_checkAge
set_option maxRecDepth 20000 in
theorem ggX3_alive_X1_leftOfThousand : GoodIn wsX3_alive wsX1_leftOfThousand := goodIn_r _ [15, 16, 17, 18, 14, 19, 20, 9, 6, 10, 24, 25] (by decide +kernel) (by decide +kernel)
set_option maxRecDepth 20000 in
theorem gX3_alive_X1_leftOfThousand : GoodIn wsX3_alive (wsV RX3 151 RX1 yX1_leftOfThousand wsX1_leftOfThousand) := goodIn_app (goodIn_of _ (by decide +kernel)) ggX3_alive_X1_leftOfThousand
theorem dX3_alive_0 : decode cX3_alive 0 = .ok (.iload_n 1, 1) := by decide +kernel
theorem dX3_alive_1 : decode cX3_alive 1 = .ok (.invokestatic 62, 3) := by decide +kernel
theorem dX3_alive_4 : decode cX3_alive 4 = .ok (.iload_n 2, 1) := by decide +kernel
theorem dX3_alive_5 : decode cX3_alive 5 = .ok (.ifCond .lt 9, 3) := by decide +kernel
theorem dX3_alive_8 : decode cX3_alive 8 = .ok (.iload_n 2, 1) := by decide +kernel
theorem dX3_alive_9 : decode cX3_alive 9 = .ok (.bipush 60, 2) := by decide +kernel
theorem dX3_alive_11 : decode cX3_alive 11 = .ok (.if_icmp .le 13, 3) := by decide +kernel
theorem dX3_alive_14 : decode cX3_alive 14 = .ok (.new 39, 3) := by decide +kernel
theorem dX3_alive_17 : decode cX3_alive 17 = .ok (.dup, 1) := by decide +kernel
theorem dX3_alive_18 : decode cX3_alive 18 = .ok (.ldc 149, 2) := by decide +kernel
theorem dX3_alive_20 : decode cX3_alive 20 = .ok (.invokespecial 43, 3) := by decide +kernel
theorem dX3_alive_23 : decode cX3_alive 23 = .ok (.athrow, 1) := by decide +kernel
theorem dX3_alive_24 : decode cX3_alive 24 = .ok (.aload_n 0, 1) := by decide +kernel
theorem dX3_alive_25 : decode cX3_alive 25 = .ok (.getfield 12, 3) := by decide +kernel
theorem dX3_alive_28 : decode cX3_alive 28 = .ok (.iload_n 1, 1) := by decide +kernel
theorem dX3_alive_29 : decode cX3_alive 29 = .ok (.iload_n 2, 1) := by decide +kernel
theorem dX3_alive_30 : decode cX3_alive 30 = .ok (.invokevirtual 151, 3) := by decide +kernel
theorem dX3_alive_33 : decode cX3_alive 33 = .ok (.ireturn, 1) := by decide +kernel
set_option maxRecDepth 20000 in
theorem ggX3_pass_X3_checkYearsPassing : GoodIn wsX3_pass wsX3_checkYearsPassing := goodIn_ca (goodIn_r _ [6, 7, 8] (by decide +kernel) (by decide +kernel)) (goodIn_sub (fun _ h => List.mem_cons_of_mem _ (List.mem_append_right _ h)) (by decide +kernel))
set_option maxRecDepth 20000 in
theorem gX3_pass_X3_checkYearsPassing : GoodIn wsX3_pass (va_wsS RX3 154 yX3_checkYearsPassing wsX3_checkYearsPassing) := goodIn_app (goodIn_of _ (by decide +kernel)) ggX3_pass_X3_checkYearsPassing
set_option maxRecDepth 20000 in
theorem ggX3_pass_X0_passYears : GoodIn wsX3_pass wsX0_passYears := goodIn_r _ [13, 14, 15, 16, 12, 17, 18, 19, 20, 21, 22, 23, 24, 25, 26, 27, 28, 29, 30, 31, 32, 33, 34, 35, 36, 37, 38, 39, 40, 41, 42, 43, 44, 45, 46, 47, 48, 49, 50, 51, 52, 53, 54, 55, 56, 57, 58, 62, 63, 64, 65, 66, 67, 68, 69, 70, 71, 72, 73, 74, 75, 76, 77] (by decide +kernel) (by decide +kernel)
set_option maxRecDepth 20000 in
theorem gX3_pass_X0_passYears : GoodIn wsX3_pass (wsV RX3 160 RX0 yX0_passYears wsX0_passYears) := goodIn_app (goodIn_of _ (by decide +kernel)) ggX3_pass_X0_passYears
theorem dX3_pass_0 : decode cX3_pass 0 = .ok (.iload_n 1, 1) := by decide +kernel
theorem dX3_pass_1 : decode cX3_pass 1 = .ok (.invokestatic 154, 3) := by decide +kernel
theorem dX3_pass_4 : decode cX3_pass 4 = .ok (.aload_n 0, 1) := by decide +kernel
theorem dX3_pass_5 : decode cX3_pass 5 = .ok (.getfield 21, 3) := by decide +kernel
theorem dX3_pass_8 : decode cX3_pass 8 = .ok (.getfield 157, 3) := by decide +kernel
theorem dX3_pass_11 : decode cX3_pass 11 = .ok (.istore_n 2, 1) := by decide +kernel
theorem dX3_pass_12 : decode cX3_pass 12 = .ok (.aload_n 0, 1) := by decide +kernel
theorem dX3_pass_13 : decode cX3_pass 13 = .ok (.getfield 21, 3) := by decide +kernel
theorem dX3_pass_16 : decode cX3_pass 16 = .ok (.iload_n 1, 1) := by decide +kernel
theorem dX3_pass_17 : decode cX3_pass 17 = .ok (.invokevirtual 160, 3) := by decide +kernel
theorem dX3_pass_20 : decode cX3_pass 20 = .ok (.aload_n 0, 1) := by decide +kernel
theorem dX3_pass_21 : decode cX3_pass 21 = .ok (.getfield 21, 3) := by decide +kernel
theorem dX3_pass_24 : decode cX3_pass 24 = .ok (.getfield 157, 3) := by decide +kernel
theorem dX3_pass_27 : decode cX3_pass 27 = .ok (.iload_n 2, 1) := by decide +kernel
theorem dX3_pass_28 : decode cX3_pass 28 = .ok (.isub, 1) := by decide +kernel
theorem dX3_pass_29 : decode cX3_pass 29 = .ok (.ireturn, 1) := by decide +kernel
set_option maxRecDepth 20000 in
theorem ggX3_foresee_X3_checkYearsPassing : GoodIn wsX3_foresee wsX3_checkYearsPassing := goodIn_ca (goodIn_r _ [8, 9, 10] (by decide +kernel) (by decide +kernel)) (goodIn_sub (fun _ h => List.mem_cons_of_mem _ (List.mem_append_right _ h)) (by decide +kernel))
set_option maxRecDepth 20000 in
theorem gX3_foresee_X3_checkYearsPassing : GoodIn wsX3_foresee (va_wsS RX3 154 yX3_checkYearsPassing wsX3_checkYearsPassing) := goodIn_app (goodIn_of _ (by decide +kernel)) ggX3_foresee_X3_checkYearsPassing
set_option maxRecDepth 20000 in
theorem ggX3_foresee_X0_copy : GoodIn wsX3_foresee wsX0_copy := goodIn_r _ [15, 16, 17, 18, 19, 20, 21, 22, 23, 24, 25, 26, 27, 28, 29, 30, 31, 32, 33, 111, 112, 113, 114, 115, 116, 117, 118, 119, 120, 121, 122, 123, 124] (by decide +kernel) (by decide +kernel)
set_option maxRecDepth 20000 in
theorem gX3_foresee_X0_copy : GoodIn wsX3_foresee (wsV RX3 165 RX0 yX0_copy wsX0_copy) := goodIn_app (goodIn_of _ (by decide +kernel)) ggX3_foresee_X0_copy
set_option maxRecDepth 20000 in
theorem ggX3_foresee_X0_passYears : GoodIn wsX3_foresee wsX0_passYears := goodIn_r _ [37, 38, 39, 40, 14, 41, 17, 42, 43, 16, 20, 44, 45, 46, 47, 48, 49, 50, 51, 52, 53, 54, 55, 56, 57, 58, 21, 59, 60, 61, 25, 62, 31, 63, 64, 65, 66, 29, 28, 32, 27, 30, 67, 68, 69, 70, 18, 111, 112, 113, 114, 115, 116, 117, 125, 126, 118, 119, 120, 121, 122, 123, 124] (by decide +kernel) (by decide +kernel)
set_option maxRecDepth 20000 in
theorem gX3_foresee_X0_passYears : GoodIn wsX3_foresee (wsV RX3 160 RX0 yX0_passYears wsX0_passYears) := goodIn_app (goodIn_of _ (by decide +kernel)) ggX3_foresee_X0_passYears
set_option maxRecDepth 20000 in
theorem ggX3_foresee_X0_tell : GoodIn wsX3_foresee wsX0_tell := goodIn_r _ [74, 20, 16, 17, 42, 18, 19, 75, 76, 77, 14, 78, 55, 56, 57, 58, 21, 59, 60, 61, 25, 62, 31, 44, 45, 46, 47, 48, 49, 79, 80, 81, 82, 83, 84, 85, 86, 87, 88, 89, 90, 91, 92, 93, 94, 95, 96, 97, 98, 99, 100, 7, 101, 102, 103, 104, 105, 106, 107, 111, 112, 113, 114, 115, 116, 117, 118, 119, 120, 121, 122, 123, 124, 125, 126] (by decide +kernel) (by decide +kernel)
set_option maxRecDepth 20000 in
theorem gX3_foresee_X0_tell : GoodIn wsX3_foresee (wsV RX3 146 RX0 yX0_tell wsX0_tell) := goodIn_app (goodIn_of _ (by decide +kernel)) ggX3_foresee_X0_tell
theorem dX3_foresee_0 : decode cX3_foresee 0 = .ok (.iload_n 1, 1) := by decide +kernel
theorem dX3_foresee_1 : decode cX3_foresee 1 = .ok (.invokestatic 154, 3) := by decide +kernel
theorem dX3_foresee_4 : decode cX3_foresee 4 = .ok (.iload_n 2, 1) := by decide +kernel
theorem dX3_foresee_5 : decode cX3_foresee 5 = .ok (.iconst 2, 1) := by decide +kernel
theorem dX3_foresee_6 : decode cX3_foresee 6 = .ok (.if_icmp .lt 9, 3) := by decide +kernel
theorem dX3_foresee_9 : decode cX3_foresee 9 = .ok (.iload_n 2, 1) := by decide +kernel
theorem dX3_foresee_10 : decode cX3_foresee 10 = .ok (.bipush 7, 2) := by decide +kernel
theorem dX3_foresee_12 : decode cX3_foresee 12 = .ok (.if_icmp .le 13, 3) := by decide +kernel
theorem dX3_foresee_15 : decode cX3_foresee 15 = .ok (.new 32, 3) := by decide +kernel
theorem dX3_foresee_18 : decode cX3_foresee 18 = .ok (.dup, 1) := by decide +kernel
theorem dX3_foresee_19 : decode cX3_foresee 19 = .ok (.ldc 163, 2) := by decide +kernel
theorem dX3_foresee_21 : decode cX3_foresee 21 = .ok (.invokespecial 36, 3) := by decide +kernel
theorem dX3_foresee_24 : decode cX3_foresee 24 = .ok (.athrow, 1) := by decide +kernel
theorem dX3_foresee_25 : decode cX3_foresee 25 = .ok (.aload_n 0, 1) := by decide +kernel
theorem dX3_foresee_26 : decode cX3_foresee 26 = .ok (.getfield 25, 3) := by decide +kernel
theorem dX3_foresee_29 : decode cX3_foresee 29 = .ok (.aload_n 0, 1) := by decide +kernel
theorem dX3_foresee_30 : decode cX3_foresee 30 = .ok (.getfield 21, 3) := by decide +kernel
theorem dX3_foresee_33 : decode cX3_foresee 33 = .ok (.invokevirtual 165, 3) := by decide +kernel
theorem dX3_foresee_36 : decode cX3_foresee 36 = .ok (.aload_n 0, 1) := by decide +kernel
theorem dX3_foresee_37 : decode cX3_foresee 37 = .ok (.getfield 25, 3) := by decide +kernel
theorem dX3_foresee_40 : decode cX3_foresee 40 = .ok (.iload_n 1, 1) := by decide +kernel
theorem dX3_foresee_41 : decode cX3_foresee 41 = .ok (.invokevirtual 160, 3) := by decide +kernel
theorem dX3_foresee_44 : decode cX3_foresee 44 = .ok (.aload_n 0, 1) := by decide +kernel
theorem dX3_foresee_45 : decode cX3_foresee 45 = .ok (.getfield 25, 3) := by decide +kernel
theorem dX3_foresee_48 : decode cX3_foresee 48 = .ok (.iload_n 2, 1) := by decide +kernel
theorem dX3_foresee_49 : decode cX3_foresee 49 = .ok (.invokevirtual 146, 3) := by decide +kernel
theorem dX3_foresee_52 : decode cX3_foresee 52 = .ok (.ireturn, 1) := by decide +kernel
set_option maxRecDepth 20000 in
theorem ggX3_lasts_X0_copy : GoodIn wsX3_lasts wsX0_copy := goodIn_r _ [8, 9, 10, 11, 12, 13, 14, 15, 16, 17, 18, 19, 20, 21, 22, 23, 24, 25, 26, 63, 64, 65, 66, 67, 68, 69, 70, 71, 72, 73, 74, 75, 76] (by decide +kernel) (by decide +kernel)
set_option maxRecDepth 20000 in
theorem gX3_lasts_X0_copy : GoodIn wsX3_lasts (wsV RX3 165 RX0 yX0_copy wsX0_copy) := goodIn_app (goodIn_of _ (by decide +kernel)) ggX3_lasts_X0_copy
set_option maxRecDepth 20000 in
theorem ggX3_lasts_X0_passYear : GoodIn wsX3_lasts wsX0_passYear := goodIn_r _ [30, 10, 31, 32, 9, 13, 33, 34, 35, 36, 37, 38, 39, 40, 41, 7, 42, 43, 44, 45, 46, 47, 14, 48, 49, 50, 18, 51, 24, 52, 53, 54, 55, 22, 21, 25, 20, 23, 56, 57, 58, 59, 11, 63, 64, 65, 66, 67, 68, 69, 77, 78, 70, 71, 72, 73, 74, 75, 76] (by decide +kernel) (by decide +kernel)
set_option maxRecDepth 20000 in
theorem gX3_lasts_X0_passYear : GoodIn wsX3_lasts (wsV RX3 169 RX0 yX0_passYear wsX0_passYear) := goodIn_app (goodIn_of _ (by decide +kernel)) ggX3_lasts_X0_passYear
theorem dX3_lasts_0 : decode cX3_lasts 0 = .ok (.aload_n 0, 1) := by decide +kernel
theorem dX3_lasts_1 : decode cX3_lasts 1 = .ok (.getfield 25, 3) := by decide +kernel
theorem dX3_lasts_4 : decode cX3_lasts 4 = .ok (.aload_n 0, 1) := by decide +kernel
theorem dX3_lasts_5 : decode cX3_lasts 5 = .ok (.getfield 21, 3) := by decide +kernel
theorem dX3_lasts_8 : decode cX3_lasts 8 = .ok (.invokevirtual 165, 3) := by decide +kernel
theorem dX3_lasts_11 : decode cX3_lasts 11 = .ok (.iconst 0, 1) := by decide +kernel
theorem dX3_lasts_12 : decode cX3_lasts 12 = .ok (.istore_n 1, 1) := by decide +kernel
theorem dX3_lasts_13 : decode cX3_lasts 13 = .ok (.iload_n 1, 1) := by decide +kernel
theorem dX3_lasts_14 : decode cX3_lasts 14 = .ok (.bipush 60, 2) := by decide +kernel
theorem dX3_lasts_16 : decode cX3_lasts 16 = .ok (.if_icmp .gt 28, 3) := by decide +kernel
theorem dX3_lasts_19 : decode cX3_lasts 19 = .ok (.aload_n 0, 1) := by decide +kernel
theorem dX3_lasts_20 : decode cX3_lasts 20 = .ok (.getfield 25, 3) := by decide +kernel
theorem dX3_lasts_23 : decode cX3_lasts 23 = .ok (.getfield 137, 3) := by decide +kernel
theorem dX3_lasts_26 : decode cX3_lasts 26 = .ok (.ifCond .ge 5, 3) := by decide +kernel
theorem dX3_lasts_29 : decode cX3_lasts 29 = .ok (.iload_n 1, 1) := by decide +kernel
theorem dX3_lasts_30 : decode cX3_lasts 30 = .ok (.ireturn, 1) := by decide +kernel
theorem dX3_lasts_31 : decode cX3_lasts 31 = .ok (.aload_n 0, 1) := by decide +kernel
theorem dX3_lasts_32 : decode cX3_lasts 32 = .ok (.getfield 25, 3) := by decide +kernel
theorem dX3_lasts_35 : decode cX3_lasts 35 = .ok (.invokevirtual 169, 3) := by decide +kernel
theorem dX3_lasts_38 : decode cX3_lasts 38 = .ok (.iinc 1 1, 3) := by decide +kernel
theorem dX3_lasts_41 : decode cX3_lasts 41 = .ok (.goto (-28), 3) := by decide +kernel
theorem dX3_lasts_44 : decode cX3_lasts 44 = .ok (.iconst (-1), 1) := by decide +kernel
theorem dX3_lasts_45 : decode cX3_lasts 45 = .ok (.ireturn, 1) := by decide +kernel
set_option maxRecDepth 20000 in
theorem ggX3_even_X0_keptForAll : GoodIn wsX3_even wsX0_keptForAll := goodIn_r _ [7, 8, 9, 10, 11, 12, 6, 13, 14, 15, 16, 17, 18, 19, 20, 21, 22, 23, 24, 25, 26, 27, 28, 29, 30, 31, 32, 33, 34, 35, 36, 37, 38, 39, 40, 44, 45, 46, 47, 48, 49, 50, 51, 52, 53, 54, 55, 56, 57, 58, 59] (by decide +kernel) (by decide +kernel)
set_option maxRecDepth 20000 in
theorem gX3_even_X0_keptForAll : GoodIn wsX3_even (wsV RX3 172 RX0 yX0_keptForAll wsX0_keptForAll) := goodIn_app (goodIn_of _ (by decide +kernel)) ggX3_even_X0_keptForAll
theorem dX3_even_0 : decode cX3_even 0 = .ok (.iconst (-1), 1) := by decide +kernel
theorem dX3_even_1 : decode cX3_even 1 = .ok (.istore_n 1, 1) := by decide +kernel
theorem dX3_even_2 : decode cX3_even 2 = .ok (.sipush 128, 3) := by decide +kernel
theorem dX3_even_5 : decode cX3_even 5 = .ok (.istore_n 2, 1) := by decide +kernel
theorem dX3_even_6 : decode cX3_even 6 = .ok (.iload_n 2, 1) := by decide +kernel
theorem dX3_even_7 : decode cX3_even 7 = .ok (.ifCond .le 41, 3) := by decide +kernel
theorem dX3_even_10 : decode cX3_even 10 = .ok (.iload_n 1, 1) := by decide +kernel
theorem dX3_even_11 : decode cX3_even 11 = .ok (.iload_n 2, 1) := by decide +kernel
theorem dX3_even_12 : decode cX3_even 12 = .ok (.iadd, 1) := by decide +kernel
theorem dX3_even_13 : decode cX3_even 13 = .ok (.istore_n 3, 1) := by decide +kernel
theorem dX3_even_14 : decode cX3_even 14 = .ok (.iload_n 3, 1) := by decide +kernel
theorem dX3_even_15 : decode cX3_even 15 = .ok (.sipush 200, 3) := by decide +kernel
theorem dX3_even_18 : decode cX3_even 18 = .ok (.if_icmp .gt 23, 3) := by decide +kernel
theorem dX3_even_21 : decode cX3_even 21 = .ok (.aload_n 0, 1) := by decide +kernel
theorem dX3_even_22 : decode cX3_even 22 = .ok (.getfield 21, 3) := by decide +kernel
theorem dX3_even_25 : decode cX3_even 25 = .ok (.iload_n 3, 1) := by decide +kernel
theorem dX3_even_26 : decode cX3_even 26 = .ok (.invokevirtual 172, 3) := by decide +kernel
theorem dX3_even_29 : decode cX3_even 29 = .ok (.aload_n 0, 1) := by decide +kernel
theorem dX3_even_30 : decode cX3_even 30 = .ok (.getfield 21, 3) := by decide +kernel
theorem dX3_even_33 : decode cX3_even 33 = .ok (.getfield 137, 3) := by decide +kernel
theorem dX3_even_36 : decode cX3_even 36 = .ok (.if_icmp .le 5, 3) := by decide +kernel
theorem dX3_even_39 : decode cX3_even 39 = .ok (.iload_n 3, 1) := by decide +kernel
theorem dX3_even_40 : decode cX3_even 40 = .ok (.istore_n 1, 1) := by decide +kernel
theorem dX3_even_41 : decode cX3_even 41 = .ok (.iload_n 2, 1) := by decide +kernel
theorem dX3_even_42 : decode cX3_even 42 = .ok (.iconst 2, 1) := by decide +kernel
theorem dX3_even_43 : decode cX3_even 43 = .ok (.idiv, 1) := by decide +kernel
theorem dX3_even_44 : decode cX3_even 44 = .ok (.istore_n 2, 1) := by decide +kernel
theorem dX3_even_45 : decode cX3_even 45 = .ok (.goto (-39), 3) := by decide +kernel
theorem dX3_even_48 : decode cX3_even 48 = .ok (.iload_n 1, 1) := by decide +kernel
theorem dX3_even_49 : decode cX3_even 49 = .ok (.sipush 200, 3) := by decide +kernel
theorem dX3_even_52 : decode cX3_even 52 = .ok (.if_icmp .ne 7, 3) := by decide +kernel
theorem dX3_even_55 : decode cX3_even 55 = .ok (.iconst (-1), 1) := by decide +kernel
theorem dX3_even_56 : decode cX3_even 56 = .ok (.goto 6, 3) := by decide +kernel
theorem dX3_even_59 : decode cX3_even 59 = .ok (.iload_n 1, 1) := by decide +kernel
theorem dX3_even_60 : decode cX3_even 60 = .ok (.iconst 1, 1) := by decide +kernel
theorem dX3_even_61 : decode cX3_even 61 = .ok (.iadd, 1) := by decide +kernel
theorem dX3_even_62 : decode cX3_even 62 = .ok (.ireturn, 1) := by decide +kernel
set_option maxRecDepth 20000 in
theorem ggX3_affords_X3_checkAge : GoodIn wsX3_affords wsX3_checkAge := goodIn_ca (goodIn_r _ [8, 1, 2, 9, 10, 7, 11] (by decide +kernel) (by decide +kernel)) (goodIn_sub (fun _ h => List.mem_cons_of_mem _ (List.mem_append_right _ h)) (by decide +kernel))
set_option maxRecDepth 20000 in
theorem gX3_affords_X3_checkAge : GoodIn wsX3_affords (va_wsS RX3 62 yX3_checkAge wsX3_checkAge) := goodIn_app (goodIn_of _ (by decide +kernel)) ggX3_affords_X3_checkAge
set_option maxRecDepth 20000 in
theorem ggX3_affords_X3_checkPutOff : GoodIn wsX3_affords wsX3_checkPutOff := goodIn_ca (goodIn_r _ [14, 1, 2] (by decide +kernel) (by decide +kernel)) (goodIn_sub (fun _ h => List.mem_cons_of_mem _ (List.mem_append_right _ h)) (by decide +kernel))
set_option maxRecDepth 20000 in
theorem gX3_affords_X3_checkPutOff : GoodIn wsX3_affords (va_wsS RX3 69 yX3_checkPutOff wsX3_checkPutOff) := goodIn_app (goodIn_of _ (by decide +kernel)) ggX3_affords_X3_checkPutOff
set_option maxRecDepth 20000 in
theorem ggX3_affords_X1_worthNow : GoodIn wsX3_affords wsX1_worthNow := goodIn_r _ [19, 20, 21, 22, 23, 18, 24, 25, 26, 27, 28, 29, 10, 7, 11, 41, 42] (by decide +kernel) (by decide +kernel)
set_option maxRecDepth 20000 in
theorem gX3_affords_X1_worthNow : GoodIn wsX3_affords (wsV RX3 81 RX1 yX1_worthNow wsX1_worthNow) := goodIn_app (goodIn_of _ (by decide +kernel)) ggX3_affords_X1_worthNow
set_option maxRecDepth 20000 in
theorem ggX3_affords_X1_greatestSum : GoodIn wsX3_affords wsX1_greatestSum := goodIn_r _ [33, 34, 35, 36, 18, 37, 20, 41, 42] (by decide +kernel) (by decide +kernel)
set_option maxRecDepth 20000 in
theorem gX3_affords_X1_greatestSum : GoodIn wsX3_affords (wsV RX3 177 RX1 yX1_greatestSum wsX1_greatestSum) := goodIn_app (goodIn_of _ (by decide +kernel)) ggX3_affords_X1_greatestSum
theorem dX3_affords_0 : decode cX3_affords 0 = .ok (.iload_n 1, 1) := by decide +kernel
theorem dX3_affords_1 : decode cX3_affords 1 = .ok (.invokestatic 62, 3) := by decide +kernel
theorem dX3_affords_4 : decode cX3_affords 4 = .ok (.iload_n 2, 1) := by decide +kernel
theorem dX3_affords_5 : decode cX3_affords 5 = .ok (.invokestatic 69, 3) := by decide +kernel
theorem dX3_affords_8 : decode cX3_affords 8 = .ok (.iload_n 3, 1) := by decide +kernel
theorem dX3_affords_9 : decode cX3_affords 9 = .ok (.iconst 1, 1) := by decide +kernel
theorem dX3_affords_10 : decode cX3_affords 10 = .ok (.if_icmp .lt 9, 3) := by decide +kernel
theorem dX3_affords_13 : decode cX3_affords 13 = .ok (.iload_n 3, 1) := by decide +kernel
theorem dX3_affords_14 : decode cX3_affords 14 = .ok (.ldc 131, 2) := by decide +kernel
theorem dX3_affords_16 : decode cX3_affords 16 = .ok (.if_icmp .le 13, 3) := by decide +kernel
theorem dX3_affords_19 : decode cX3_affords 19 = .ok (.new 39, 3) := by decide +kernel
theorem dX3_affords_22 : decode cX3_affords 22 = .ok (.dup, 1) := by decide +kernel
theorem dX3_affords_23 : decode cX3_affords 23 = .ok (.ldc 175, 2) := by decide +kernel
theorem dX3_affords_25 : decode cX3_affords 25 = .ok (.invokespecial 43, 3) := by decide +kernel
theorem dX3_affords_28 : decode cX3_affords 28 = .ok (.athrow, 1) := by decide +kernel
theorem dX3_affords_29 : decode cX3_affords 29 = .ok (.aload_n 0, 1) := by decide +kernel
theorem dX3_affords_30 : decode cX3_affords 30 = .ok (.getfield 12, 3) := by decide +kernel
theorem dX3_affords_33 : decode cX3_affords 33 = .ok (.iload_n 1, 1) := by decide +kernel
theorem dX3_affords_34 : decode cX3_affords 34 = .ok (.iload_n 2, 1) := by decide +kernel
theorem dX3_affords_35 : decode cX3_affords 35 = .ok (.invokevirtual 81, 3) := by decide +kernel
theorem dX3_affords_38 : decode cX3_affords 38 = .ok (.istore 4, 2) := by decide +kernel
theorem dX3_affords_40 : decode cX3_affords 40 = .ok (.iload 4, 2) := by decide +kernel
theorem dX3_affords_42 : decode cX3_affords 42 = .ok (.ifCond .ne 7, 3) := by decide +kernel
theorem dX3_affords_45 : decode cX3_affords 45 = .ok (.iconst 0, 1) := by decide +kernel
theorem dX3_affords_46 : decode cX3_affords 46 = .ok (.goto 13, 3) := by decide +kernel
theorem dX3_affords_49 : decode cX3_affords 49 = .ok (.aload_n 0, 1) := by decide +kernel
theorem dX3_affords_50 : decode cX3_affords 50 = .ok (.getfield 12, 3) := by decide +kernel
theorem dX3_affords_53 : decode cX3_affords 53 = .ok (.iload 4, 2) := by decide +kernel
theorem dX3_affords_55 : decode cX3_affords 55 = .ok (.iload_n 3, 1) := by decide +kernel
theorem dX3_affords_56 : decode cX3_affords 56 = .ok (.invokevirtual 177, 3) := by decide +kernel
theorem dX3_affords_59 : decode cX3_affords 59 = .ok (.ireturn, 1) := by decide +kernel
set_option maxRecDepth 20000 in
theorem ggX3_mean_X0_living : GoodIn wsX3_mean wsX0_living := goodIn_r _ [6, 7, 8, 9, 10, 5, 11, 12, 13, 14, 15, 16, 17, 18, 27, 28, 29, 30, 31, 32, 33, 34, 35, 36, 37, 38, 39, 40] (by decide +kernel) (by decide +kernel)
set_option maxRecDepth 20000 in
theorem gX3_mean_X0_living : GoodIn wsX3_mean (wsV RX3 180 RX0 yX0_living wsX0_living) := goodIn_app (goodIn_of _ (by decide +kernel)) ggX3_mean_X0_living
set_option maxRecDepth 20000 in
theorem ggX3_mean_X0_agesOfLiving : GoodIn wsX3_mean wsX0_agesOfLiving := goodIn_r _ [22, 7, 23, 8, 9, 10, 5, 11, 12, 13, 14, 15, 16, 17, 18, 27, 28, 29, 30, 31, 32, 33, 34, 35, 36, 37, 38, 39, 40] (by decide +kernel) (by decide +kernel)
set_option maxRecDepth 20000 in
theorem gX3_mean_X0_agesOfLiving : GoodIn wsX3_mean (wsV RX3 184 RX0 yX0_agesOfLiving wsX0_agesOfLiving) := goodIn_app (goodIn_of _ (by decide +kernel)) ggX3_mean_X0_agesOfLiving
theorem dX3_mean_0 : decode cX3_mean 0 = .ok (.aload_n 0, 1) := by decide +kernel
theorem dX3_mean_1 : decode cX3_mean 1 = .ok (.getfield 21, 3) := by decide +kernel
theorem dX3_mean_4 : decode cX3_mean 4 = .ok (.invokevirtual 180, 3) := by decide +kernel
theorem dX3_mean_7 : decode cX3_mean 7 = .ok (.istore_n 1, 1) := by decide +kernel
theorem dX3_mean_8 : decode cX3_mean 8 = .ok (.iload_n 1, 1) := by decide +kernel
theorem dX3_mean_9 : decode cX3_mean 9 = .ok (.ifCond .ne 7, 3) := by decide +kernel
theorem dX3_mean_12 : decode cX3_mean 12 = .ok (.dconst 0, 1) := by decide +kernel
theorem dX3_mean_13 : decode cX3_mean 13 = .ok (.goto 14, 3) := by decide +kernel
theorem dX3_mean_16 : decode cX3_mean 16 = .ok (.aload_n 0, 1) := by decide +kernel
theorem dX3_mean_17 : decode cX3_mean 17 = .ok (.getfield 21, 3) := by decide +kernel
theorem dX3_mean_20 : decode cX3_mean 20 = .ok (.invokevirtual 184, 3) := by decide +kernel
theorem dX3_mean_23 : decode cX3_mean 23 = .ok (.i2d, 1) := by decide +kernel
theorem dX3_mean_24 : decode cX3_mean 24 = .ok (.iload_n 1, 1) := by decide +kernel
theorem dX3_mean_25 : decode cX3_mean 25 = .ok (.i2d, 1) := by decide +kernel
theorem dX3_mean_26 : decode cX3_mean 26 = .ok (.ddiv, 1) := by decide +kernel
theorem dX3_mean_27 : decode cX3_mean 27 = .ok (.dreturn, 1) := by decide +kernel
set_option maxRecDepth 20000 in
theorem ggX3_digest_X0_tell : GoodIn wsX3_digest wsX0_tell := goodIn_r _ [10, 11, 12, 13, 14, 15, 16, 17, 18, 19, 9, 20, 21, 22, 23, 24, 25, 26, 27, 28, 29, 30, 31, 32, 33, 34, 35, 36, 37, 38, 39, 40, 41, 42, 43, 44, 45, 46, 47, 48, 49, 50, 51, 52, 53, 54, 55, 56, 57, 58, 59, 60, 61, 62, 63, 64, 65, 66, 67, 97, 98, 99, 100, 101, 102, 103, 104, 105, 106, 107, 108, 109, 110, 111, 112] (by decide +kernel) (by decide +kernel)
set_option maxRecDepth 20000 in
theorem gX3_digest_X0_tell : GoodIn wsX3_digest (wsV RX3 146 RX0 yX0_tell wsX0_tell) := goodIn_app (goodIn_of _ (by decide +kernel)) ggX3_digest_X0_tell
set_option maxRecDepth 20000 in
theorem ggX3_digest_X1_rate : GoodIn wsX3_digest wsX1_rate := goodIn_r _ [36, 37, 111, 112] (by decide +kernel) (by decide +kernel)
set_option maxRecDepth 20000 in
theorem gX3_digest_X1_rate : GoodIn wsX3_digest (wsV RX3 56 RX1 yX1_rate wsX1_rate) := goodIn_app (goodIn_of _ (by decide +kernel)) ggX3_digest_X1_rate
set_option maxRecDepth 20000 in
theorem ggX3_digest_X1_deathsAt : GoodIn wsX3_digest wsX1_deathsAt := goodIn_r _ [57, 58, 59, 60, 61, 111, 112] (by decide +kernel) (by decide +kernel)
set_option maxRecDepth 20000 in
theorem gX3_digest_X1_deathsAt : GoodIn wsX3_digest (wsV RX3 44 RX1 yX1_deathsAt wsX1_deathsAt) := goodIn_app (goodIn_of _ (by decide +kernel)) ggX3_digest_X1_deathsAt
set_option maxRecDepth 20000 in
theorem ggX3_digest_X0_widowAt : GoodIn wsX3_digest wsX0_widowAt := goodIn_r _ [24, 25, 97, 98, 99, 100, 101, 102, 103] (by decide +kernel) (by decide +kernel)
set_option maxRecDepth 20000 in
theorem gX3_digest_X0_widowAt : GoodIn wsX3_digest (wsV RX3 97 RX0 yX0_widowAt wsX0_widowAt) := goodIn_app (goodIn_of _ (by decide +kernel)) ggX3_digest_X0_widowAt
set_option maxRecDepth 20000 in
theorem ggX3_digest_X1_tellOf : GoodIn wsX3_digest wsX1_tellOf := goodIn_r _ [74, 47, 46, 48, 75, 76, 77, 78, 79, 80, 81, 35, 82, 37, 83, 43, 44, 45, 49, 27, 28, 29, 30, 31, 50, 51, 52, 53, 54, 55, 56, 57, 58, 59, 60, 61, 84, 85, 86, 87, 88, 89, 90, 91, 92, 93, 104, 105, 106, 107, 108, 109, 110, 111, 112] (by decide +kernel) (by decide +kernel)
set_option maxRecDepth 20000 in
theorem gX3_digest_X1_tellOf : GoodIn wsX3_digest (wsV RX3 142 RX1 yX1_tellOf wsX1_tellOf) := goodIn_app (goodIn_of _ (by decide +kernel)) ggX3_digest_X1_tellOf
theorem dX3_digest_0 : decode cX3_digest 0 = .ok (.ldc2_w 187, 3) := by decide +kernel
theorem dX3_digest_3 : decode cX3_digest 3 = .ok (.lstore_n 1, 1) := by decide +kernel
theorem dX3_digest_4 : decode cX3_digest 4 = .ok (.iconst 0, 1) := by decide +kernel
theorem dX3_digest_5 : decode cX3_digest 5 = .ok (.istore_n 3, 1) := by decide +kernel
theorem dX3_digest_6 : decode cX3_digest 6 = .ok (.iload_n 3, 1) := by decide +kernel
theorem dX3_digest_7 : decode cX3_digest 7 = .ok (.bipush 9, 2) := by decide +kernel
theorem dX3_digest_9 : decode cX3_digest 9 = .ok (.if_icmp .ge 25, 3) := by decide +kernel
theorem dX3_digest_12 : decode cX3_digest 12 = .ok (.lload_n 1, 1) := by decide +kernel
theorem dX3_digest_13 : decode cX3_digest 13 = .ok (.ldc2_w 189, 3) := by decide +kernel
theorem dX3_digest_16 : decode cX3_digest 16 = .ok (.lmul, 1) := by decide +kernel
theorem dX3_digest_17 : decode cX3_digest 17 = .ok (.aload_n 0, 1) := by decide +kernel
theorem dX3_digest_18 : decode cX3_digest 18 = .ok (.getfield 21, 3) := by decide +kernel
theorem dX3_digest_21 : decode cX3_digest 21 = .ok (.iload_n 3, 1) := by decide +kernel
theorem dX3_digest_22 : decode cX3_digest 22 = .ok (.invokevirtual 146, 3) := by decide +kernel
theorem dX3_digest_25 : decode cX3_digest 25 = .ok (.i2l, 1) := by decide +kernel
theorem dX3_digest_26 : decode cX3_digest 26 = .ok (.ladd, 1) := by decide +kernel
theorem dX3_digest_27 : decode cX3_digest 27 = .ok (.lstore_n 1, 1) := by decide +kernel
theorem dX3_digest_28 : decode cX3_digest 28 = .ok (.iinc 3 1, 3) := by decide +kernel
theorem dX3_digest_31 : decode cX3_digest 31 = .ok (.goto (-25), 3) := by decide +kernel
theorem dX3_digest_34 : decode cX3_digest 34 = .ok (.iconst 0, 1) := by decide +kernel
theorem dX3_digest_35 : decode cX3_digest 35 = .ok (.istore_n 3, 1) := by decide +kernel
theorem dX3_digest_36 : decode cX3_digest 36 = .ok (.iload_n 3, 1) := by decide +kernel
theorem dX3_digest_37 : decode cX3_digest 37 = .ok (.iconst 3, 1) := by decide +kernel
theorem dX3_digest_38 : decode cX3_digest 38 = .ok (.if_icmp .ge 25, 3) := by decide +kernel
theorem dX3_digest_41 : decode cX3_digest 41 = .ok (.lload_n 1, 1) := by decide +kernel
theorem dX3_digest_42 : decode cX3_digest 42 = .ok (.ldc2_w 189, 3) := by decide +kernel
theorem dX3_digest_45 : decode cX3_digest 45 = .ok (.lmul, 1) := by decide +kernel
theorem dX3_digest_46 : decode cX3_digest 46 = .ok (.aload_n 0, 1) := by decide +kernel
theorem dX3_digest_47 : decode cX3_digest 47 = .ok (.getfield 12, 3) := by decide +kernel
theorem dX3_digest_50 : decode cX3_digest 50 = .ok (.iload_n 3, 1) := by decide +kernel
theorem dX3_digest_51 : decode cX3_digest 51 = .ok (.invokevirtual 56, 3) := by decide +kernel
theorem dX3_digest_54 : decode cX3_digest 54 = .ok (.i2l, 1) := by decide +kernel
theorem dX3_digest_55 : decode cX3_digest 55 = .ok (.ladd, 1) := by decide +kernel
theorem dX3_digest_56 : decode cX3_digest 56 = .ok (.lstore_n 1, 1) := by decide +kernel
theorem dX3_digest_57 : decode cX3_digest 57 = .ok (.iinc 3 1, 3) := by decide +kernel
theorem dX3_digest_60 : decode cX3_digest 60 = .ok (.goto (-24), 3) := by decide +kernel
theorem dX3_digest_63 : decode cX3_digest 63 = .ok (.bipush 50, 2) := by decide +kernel
theorem dX3_digest_65 : decode cX3_digest 65 = .ok (.istore_n 3, 1) := by decide +kernel
theorem dX3_digest_66 : decode cX3_digest 66 = .ok (.iload_n 3, 1) := by decide +kernel
theorem dX3_digest_67 : decode cX3_digest 67 = .ok (.bipush 99, 2) := by decide +kernel
theorem dX3_digest_69 : decode cX3_digest 69 = .ok (.if_icmp .gt 25, 3) := by decide +kernel
theorem dX3_digest_72 : decode cX3_digest 72 = .ok (.lload_n 1, 1) := by decide +kernel
theorem dX3_digest_73 : decode cX3_digest 73 = .ok (.ldc2_w 189, 3) := by decide +kernel
theorem dX3_digest_76 : decode cX3_digest 76 = .ok (.lmul, 1) := by decide +kernel
theorem dX3_digest_77 : decode cX3_digest 77 = .ok (.aload_n 0, 1) := by decide +kernel
theorem dX3_digest_78 : decode cX3_digest 78 = .ok (.getfield 12, 3) := by decide +kernel
theorem dX3_digest_81 : decode cX3_digest 81 = .ok (.iload_n 3, 1) := by decide +kernel
theorem dX3_digest_82 : decode cX3_digest 82 = .ok (.invokevirtual 44, 3) := by decide +kernel
theorem dX3_digest_85 : decode cX3_digest 85 = .ok (.i2l, 1) := by decide +kernel
theorem dX3_digest_86 : decode cX3_digest 86 = .ok (.ladd, 1) := by decide +kernel
theorem dX3_digest_87 : decode cX3_digest 87 = .ok (.lstore_n 1, 1) := by decide +kernel
theorem dX3_digest_88 : decode cX3_digest 88 = .ok (.iinc 3 1, 3) := by decide +kernel
theorem dX3_digest_91 : decode cX3_digest 91 = .ok (.goto (-25), 3) := by decide +kernel
theorem dX3_digest_94 : decode cX3_digest 94 = .ok (.iconst 0, 1) := by decide +kernel
theorem dX3_digest_95 : decode cX3_digest 95 = .ok (.istore_n 3, 1) := by decide +kernel
theorem dX3_digest_96 : decode cX3_digest 96 = .ok (.iload_n 3, 1) := by decide +kernel
theorem dX3_digest_97 : decode cX3_digest 97 = .ok (.aload_n 0, 1) := by decide +kernel
theorem dX3_digest_98 : decode cX3_digest 98 = .ok (.getfield 21, 3) := by decide +kernel
theorem dX3_digest_101 : decode cX3_digest 101 = .ok (.getfield 191, 3) := by decide +kernel
theorem dX3_digest_104 : decode cX3_digest 104 = .ok (.if_icmp .ge 50, 3) := by decide +kernel
theorem dX3_digest_107 : decode cX3_digest 107 = .ok (.iconst 0, 1) := by decide +kernel
theorem dX3_digest_108 : decode cX3_digest 108 = .ok (.istore 4, 2) := by decide +kernel
theorem dX3_digest_110 : decode cX3_digest 110 = .ok (.iload 4, 2) := by decide +kernel
theorem dX3_digest_112 : decode cX3_digest 112 = .ok (.bipush 9, 2) := by decide +kernel
theorem dX3_digest_114 : decode cX3_digest 114 = .ok (.if_icmp .ge 34, 3) := by decide +kernel
theorem dX3_digest_117 : decode cX3_digest 117 = .ok (.lload_n 1, 1) := by decide +kernel
theorem dX3_digest_118 : decode cX3_digest 118 = .ok (.ldc2_w 189, 3) := by decide +kernel
theorem dX3_digest_121 : decode cX3_digest 121 = .ok (.lmul, 1) := by decide +kernel
theorem dX3_digest_122 : decode cX3_digest 122 = .ok (.aload_n 0, 1) := by decide +kernel
theorem dX3_digest_123 : decode cX3_digest 123 = .ok (.getfield 12, 3) := by decide +kernel
theorem dX3_digest_126 : decode cX3_digest 126 = .ok (.aload_n 0, 1) := by decide +kernel
theorem dX3_digest_127 : decode cX3_digest 127 = .ok (.getfield 21, 3) := by decide +kernel
theorem dX3_digest_130 : decode cX3_digest 130 = .ok (.iload_n 3, 1) := by decide +kernel
theorem dX3_digest_131 : decode cX3_digest 131 = .ok (.invokevirtual 97, 3) := by decide +kernel
theorem dX3_digest_134 : decode cX3_digest 134 = .ok (.iload 4, 2) := by decide +kernel
theorem dX3_digest_136 : decode cX3_digest 136 = .ok (.invokevirtual 142, 3) := by decide +kernel
theorem dX3_digest_139 : decode cX3_digest 139 = .ok (.i2l, 1) := by decide +kernel
theorem dX3_digest_140 : decode cX3_digest 140 = .ok (.ladd, 1) := by decide +kernel
theorem dX3_digest_141 : decode cX3_digest 141 = .ok (.lstore_n 1, 1) := by decide +kernel
theorem dX3_digest_142 : decode cX3_digest 142 = .ok (.iinc 4 1, 3) := by decide +kernel
theorem dX3_digest_145 : decode cX3_digest 145 = .ok (.goto (-35), 3) := by decide +kernel
theorem dX3_digest_148 : decode cX3_digest 148 = .ok (.iinc 3 1, 3) := by decide +kernel
theorem dX3_digest_151 : decode cX3_digest 151 = .ok (.goto (-55), 3) := by decide +kernel
theorem dX3_digest_154 : decode cX3_digest 154 = .ok (.lload_n 1, 1) := by decide +kernel
theorem dX3_digest_155 : decode cX3_digest 155 = .ok (.lreturn, 1) := by decide +kernel
theorem dX3_isAge_0 : decode cX3_isAge 0 = .ok (.iload_n 0, 1) := by decide +kernel
theorem dX3_isAge_1 : decode cX3_isAge 1 = .ok (.bipush 50, 2) := by decide +kernel
theorem dX3_isAge_3 : decode cX3_isAge 3 = .ok (.if_icmp .lt 13, 3) := by decide +kernel
theorem dX3_isAge_6 : decode cX3_isAge 6 = .ok (.iload_n 0, 1) := by decide +kernel
theorem dX3_isAge_7 : decode cX3_isAge 7 = .ok (.bipush 99, 2) := by decide +kernel
theorem dX3_isAge_9 : decode cX3_isAge 9 = .ok (.if_icmp .gt 7, 3) := by decide +kernel
theorem dX3_isAge_12 : decode cX3_isAge 12 = .ok (.iconst 1, 1) := by decide +kernel
theorem dX3_isAge_13 : decode cX3_isAge 13 = .ok (.goto 4, 3) := by decide +kernel
theorem dX3_isAge_16 : decode cX3_isAge 16 = .ok (.iconst 0, 1) := by decide +kernel
theorem dX3_isAge_17 : decode cX3_isAge 17 = .ok (.ireturn, 1) := by decide +kernel
set_option maxRecDepth 20000 in
theorem ggX3_checkAge_X3_isAge : GoodIn wsX3_checkAge wsX3_isAge := goodIn_r _ [6] (by decide +kernel) (by decide +kernel)
set_option maxRecDepth 20000 in
theorem gX3_checkAge_X3_isAge : GoodIn wsX3_checkAge (va_wsS RX3 28 yX3_isAge wsX3_isAge) := goodIn_app (goodIn_of _ (by decide +kernel)) ggX3_checkAge_X3_isAge
theorem dX3_checkAge_0 : decode cX3_checkAge 0 = .ok (.iload_n 0, 1) := by decide +kernel
theorem dX3_checkAge_1 : decode cX3_checkAge 1 = .ok (.invokestatic 28, 3) := by decide +kernel
theorem dX3_checkAge_4 : decode cX3_checkAge 4 = .ok (.ifCond .ne 13, 3) := by decide +kernel
theorem dX3_checkAge_7 : decode cX3_checkAge 7 = .ok (.new 39, 3) := by decide +kernel
theorem dX3_checkAge_10 : decode cX3_checkAge 10 = .ok (.dup, 1) := by decide +kernel
theorem dX3_checkAge_11 : decode cX3_checkAge 11 = .ok (.ldc 34, 2) := by decide +kernel
theorem dX3_checkAge_13 : decode cX3_checkAge 13 = .ok (.invokespecial 43, 3) := by decide +kernel
theorem dX3_checkAge_16 : decode cX3_checkAge 16 = .ok (.athrow, 1) := by decide +kernel
theorem dX3_checkAge_17 : decode cX3_checkAge 17 = .ok (.return_, 1) := by decide +kernel
theorem dX3_checkSum_0 : decode cX3_checkSum 0 = .ok (.iload_n 0, 1) := by decide +kernel
theorem dX3_checkSum_1 : decode cX3_checkSum 1 = .ok (.iconst 1, 1) := by decide +kernel
theorem dX3_checkSum_2 : decode cX3_checkSum 2 = .ok (.if_icmp .lt 10, 3) := by decide +kernel
theorem dX3_checkSum_5 : decode cX3_checkSum 5 = .ok (.iload_n 0, 1) := by decide +kernel
theorem dX3_checkSum_6 : decode cX3_checkSum 6 = .ok (.sipush 999, 3) := by decide +kernel
theorem dX3_checkSum_9 : decode cX3_checkSum 9 = .ok (.if_icmp .le 13, 3) := by decide +kernel
theorem dX3_checkSum_12 : decode cX3_checkSum 12 = .ok (.new 39, 3) := by decide +kernel
theorem dX3_checkSum_15 : decode cX3_checkSum 15 = .ok (.dup, 1) := by decide +kernel
theorem dX3_checkSum_16 : decode cX3_checkSum 16 = .ok (.ldc 194, 2) := by decide +kernel
theorem dX3_checkSum_18 : decode cX3_checkSum 18 = .ok (.invokespecial 43, 3) := by decide +kernel
theorem dX3_checkSum_21 : decode cX3_checkSum 21 = .ok (.athrow, 1) := by decide +kernel
theorem dX3_checkSum_22 : decode cX3_checkSum 22 = .ok (.return_, 1) := by decide +kernel
theorem dX3_checkPutOff_0 : decode cX3_checkPutOff 0 = .ok (.iload_n 0, 1) := by decide +kernel
theorem dX3_checkPutOff_1 : decode cX3_checkPutOff 1 = .ok (.ifCond .lt 9, 3) := by decide +kernel
theorem dX3_checkPutOff_4 : decode cX3_checkPutOff 4 = .ok (.iload_n 0, 1) := by decide +kernel
theorem dX3_checkPutOff_5 : decode cX3_checkPutOff 5 = .ok (.bipush 30, 2) := by decide +kernel
theorem dX3_checkPutOff_7 : decode cX3_checkPutOff 7 = .ok (.if_icmp .le 13, 3) := by decide +kernel
theorem dX3_checkPutOff_10 : decode cX3_checkPutOff 10 = .ok (.new 39, 3) := by decide +kernel
theorem dX3_checkPutOff_13 : decode cX3_checkPutOff 13 = .ok (.dup, 1) := by decide +kernel
theorem dX3_checkPutOff_14 : decode cX3_checkPutOff 14 = .ok (.ldc 196, 2) := by decide +kernel
theorem dX3_checkPutOff_16 : decode cX3_checkPutOff 16 = .ok (.invokespecial 43, 3) := by decide +kernel
theorem dX3_checkPutOff_19 : decode cX3_checkPutOff 19 = .ok (.athrow, 1) := by decide +kernel
theorem dX3_checkPutOff_20 : decode cX3_checkPutOff 20 = .ok (.return_, 1) := by decide +kernel
theorem dX3_checkYearsPassing_0 : decode cX3_checkYearsPassing 0 = .ok (.iload_n 0, 1) := by decide +kernel
theorem dX3_checkYearsPassing_1 : decode cX3_checkYearsPassing 1 = .ok (.iconst 1, 1) := by decide +kernel
theorem dX3_checkYearsPassing_2 : decode cX3_checkYearsPassing 2 = .ok (.if_icmp .lt 9, 3) := by decide +kernel
theorem dX3_checkYearsPassing_5 : decode cX3_checkYearsPassing 5 = .ok (.iload_n 0, 1) := by decide +kernel
theorem dX3_checkYearsPassing_6 : decode cX3_checkYearsPassing 6 = .ok (.bipush 50, 2) := by decide +kernel
theorem dX3_checkYearsPassing_8 : decode cX3_checkYearsPassing 8 = .ok (.if_icmp .le 13, 3) := by decide +kernel
theorem dX3_checkYearsPassing_11 : decode cX3_checkYearsPassing 11 = .ok (.new 39, 3) := by decide +kernel
theorem dX3_checkYearsPassing_14 : decode cX3_checkYearsPassing 14 = .ok (.dup, 1) := by decide +kernel
theorem dX3_checkYearsPassing_15 : decode cX3_checkYearsPassing 15 = .ok (.ldc 198, 2) := by decide +kernel
theorem dX3_checkYearsPassing_17 : decode cX3_checkYearsPassing 17 = .ok (.invokespecial 43, 3) := by decide +kernel
theorem dX3_checkYearsPassing_20 : decode cX3_checkYearsPassing 20 = .ok (.athrow, 1) := by decide +kernel
theorem dX3_checkYearsPassing_21 : decode cX3_checkYearsPassing 21 = .ok (.return_, 1) := by decide +kernel
theorem dX3_checkWidow_0 : decode cX3_checkWidow 0 = .ok (.iload_n 1, 1) := by decide +kernel
theorem dX3_checkWidow_1 : decode cX3_checkWidow 1 = .ok (.ifCond .lt 14, 3) := by decide +kernel
theorem dX3_checkWidow_4 : decode cX3_checkWidow 4 = .ok (.iload_n 1, 1) := by decide +kernel
theorem dX3_checkWidow_5 : decode cX3_checkWidow 5 = .ok (.aload_n 0, 1) := by decide +kernel
theorem dX3_checkWidow_6 : decode cX3_checkWidow 6 = .ok (.getfield 21, 3) := by decide +kernel
theorem dX3_checkWidow_9 : decode cX3_checkWidow 9 = .ok (.getfield 191, 3) := by decide +kernel
theorem dX3_checkWidow_12 : decode cX3_checkWidow 12 = .ok (.if_icmp .lt 13, 3) := by decide +kernel
theorem dX3_checkWidow_15 : decode cX3_checkWidow 15 = .ok (.new 32, 3) := by decide +kernel
theorem dX3_checkWidow_18 : decode cX3_checkWidow 18 = .ok (.dup, 1) := by decide +kernel
theorem dX3_checkWidow_19 : decode cX3_checkWidow 19 = .ok (.ldc 200, 2) := by decide +kernel
theorem dX3_checkWidow_21 : decode cX3_checkWidow 21 = .ok (.invokespecial 36, 3) := by decide +kernel
theorem dX3_checkWidow_24 : decode cX3_checkWidow 24 = .ok (.athrow, 1) := by decide +kernel
theorem dX3_checkWidow_25 : decode cX3_checkWidow 25 = .ok (.return_, 1) := by decide +kernel
set_option maxRecDepth 20000 in
theorem ggX4_init_X4_reckon : GoodIn wsX4_init wsX4_reckon := goodIn_r _ [14, 9, 6, 5, 15, 16, 17, 18, 19, 20, 21] (by decide +kernel) (by decide +kernel)
set_option maxRecDepth 20000 in
theorem gX4_init_X4_reckon : GoodIn wsX4_init (wsV RX4 25 RX4 yX4_reckon wsX4_reckon) := goodIn_app (goodIn_of _ (by decide +kernel)) ggX4_init_X4_reckon
theorem dX4_init_0 : decode cX4_init 0 = .ok (.aload_n 0, 1) := by decide +kernel
theorem dX4_init_1 : decode cX4_init 1 = .ok (.invokespecial 1, 3) := by decide +kernel
theorem dX4_init_4 : decode cX4_init 4 = .ok (.aload_n 0, 1) := by decide +kernel
theorem dX4_init_5 : decode cX4_init 5 = .ok (.iconst 3, 1) := by decide +kernel
theorem dX4_init_6 : decode cX4_init 6 = .ok (.newarray .int, 2) := by decide +kernel
theorem dX4_init_8 : decode cX4_init 8 = .ok (.dup, 1) := by decide +kernel
theorem dX4_init_9 : decode cX4_init 9 = .ok (.iconst 0, 1) := by decide +kernel
theorem dX4_init_10 : decode cX4_init 10 = .ok (.bipush 40, 2) := by decide +kernel
theorem dX4_init_12 : decode cX4_init 12 = .ok (.iastore, 1) := by decide +kernel
theorem dX4_init_13 : decode cX4_init 13 = .ok (.dup, 1) := by decide +kernel
theorem dX4_init_14 : decode cX4_init 14 = .ok (.iconst 1, 1) := by decide +kernel
theorem dX4_init_15 : decode cX4_init 15 = .ok (.iconst 5, 1) := by decide +kernel
theorem dX4_init_16 : decode cX4_init 16 = .ok (.iastore, 1) := by decide +kernel
theorem dX4_init_17 : decode cX4_init 17 = .ok (.dup, 1) := by decide +kernel
theorem dX4_init_18 : decode cX4_init 18 = .ok (.iconst 2, 1) := by decide +kernel
theorem dX4_init_19 : decode cX4_init 19 = .ok (.bipush 10, 2) := by decide +kernel
theorem dX4_init_21 : decode cX4_init 21 = .ok (.iastore, 1) := by decide +kernel
theorem dX4_init_22 : decode cX4_init 22 = .ok (.putfield 7, 3) := by decide +kernel
theorem dX4_init_25 : decode cX4_init 25 = .ok (.aload_n 0, 1) := by decide +kernel
theorem dX4_init_26 : decode cX4_init 26 = .ok (.bipush 50, 2) := by decide +kernel
theorem dX4_init_28 : decode cX4_init 28 = .ok (.newarray .int, 2) := by decide +kernel
theorem dX4_init_30 : decode cX4_init 30 = .ok (.putfield 13, 3) := by decide +kernel
theorem dX4_init_33 : decode cX4_init 33 = .ok (.aload_n 0, 1) := by decide +kernel
theorem dX4_init_34 : decode cX4_init 34 = .ok (.bipush 70, 2) := by decide +kernel
theorem dX4_init_36 : decode cX4_init 36 = .ok (.newarray .int, 2) := by decide +kernel
theorem dX4_init_38 : decode cX4_init 38 = .ok (.putfield 16, 3) := by decide +kernel
theorem dX4_init_41 : decode cX4_init 41 = .ok (.aload_n 0, 1) := by decide +kernel
theorem dX4_init_42 : decode cX4_init 42 = .ok (.iconst 3, 1) := by decide +kernel
theorem dX4_init_43 : decode cX4_init 43 = .ok (.newarray .int, 2) := by decide +kernel
theorem dX4_init_45 : decode cX4_init 45 = .ok (.dup, 1) := by decide +kernel
theorem dX4_init_46 : decode cX4_init 46 = .ok (.iconst 0, 1) := by decide +kernel
theorem dX4_init_47 : decode cX4_init 47 = .ok (.iconst 0, 1) := by decide +kernel
theorem dX4_init_48 : decode cX4_init 48 = .ok (.iastore, 1) := by decide +kernel
theorem dX4_init_49 : decode cX4_init 49 = .ok (.dup, 1) := by decide +kernel
theorem dX4_init_50 : decode cX4_init 50 = .ok (.iconst 1, 1) := by decide +kernel
theorem dX4_init_51 : decode cX4_init 51 = .ok (.iconst 0, 1) := by decide +kernel
theorem dX4_init_52 : decode cX4_init 52 = .ok (.iastore, 1) := by decide +kernel
theorem dX4_init_53 : decode cX4_init 53 = .ok (.dup, 1) := by decide +kernel
theorem dX4_init_54 : decode cX4_init 54 = .ok (.iconst 2, 1) := by decide +kernel
theorem dX4_init_55 : decode cX4_init 55 = .ok (.iconst 0, 1) := by decide +kernel
theorem dX4_init_56 : decode cX4_init 56 = .ok (.iastore, 1) := by decide +kernel
theorem dX4_init_57 : decode cX4_init 57 = .ok (.putfield 19, 3) := by decide +kernel
theorem dX4_init_60 : decode cX4_init 60 = .ok (.aload_n 0, 1) := by decide +kernel
theorem dX4_init_61 : decode cX4_init 61 = .ok (.sipush 1581, 3) := by decide +kernel
theorem dX4_init_64 : decode cX4_init 64 = .ok (.newarray .int, 2) := by decide +kernel
theorem dX4_init_66 : decode cX4_init 66 = .ok (.putfield 22, 3) := by decide +kernel
theorem dX4_init_69 : decode cX4_init 69 = .ok (.iconst 0, 1) := by decide +kernel
theorem dX4_init_70 : decode cX4_init 70 = .ok (.istore_n 1, 1) := by decide +kernel
theorem dX4_init_71 : decode cX4_init 71 = .ok (.iload_n 1, 1) := by decide +kernel
theorem dX4_init_72 : decode cX4_init 72 = .ok (.bipush 50, 2) := by decide +kernel
theorem dX4_init_74 : decode cX4_init 74 = .ok (.if_icmp .ge 22, 3) := by decide +kernel
theorem dX4_init_77 : decode cX4_init 77 = .ok (.aload_n 0, 1) := by decide +kernel
theorem dX4_init_78 : decode cX4_init 78 = .ok (.getfield 13, 3) := by decide +kernel
theorem dX4_init_81 : decode cX4_init 81 = .ok (.iload_n 1, 1) := by decide +kernel
theorem dX4_init_82 : decode cX4_init 82 = .ok (.bipush 10, 2) := by decide +kernel
theorem dX4_init_84 : decode cX4_init 84 = .ok (.bipush 8, 2) := by decide +kernel
theorem dX4_init_86 : decode cX4_init 86 = .ok (.iload_n 1, 1) := by decide +kernel
theorem dX4_init_87 : decode cX4_init 87 = .ok (.imul, 1) := by decide +kernel
theorem dX4_init_88 : decode cX4_init 88 = .ok (.iadd, 1) := by decide +kernel
theorem dX4_init_89 : decode cX4_init 89 = .ok (.iastore, 1) := by decide +kernel
theorem dX4_init_90 : decode cX4_init 90 = .ok (.iinc 1 1, 3) := by decide +kernel
theorem dX4_init_93 : decode cX4_init 93 = .ok (.goto (-22), 3) := by decide +kernel
theorem dX4_init_96 : decode cX4_init 96 = .ok (.aload_n 0, 1) := by decide +kernel
theorem dX4_init_97 : decode cX4_init 97 = .ok (.invokevirtual 25, 3) := by decide +kernel
theorem dX4_init_100 : decode cX4_init 100 = .ok (.return_, 1) := by decide +kernel
theorem dX4_thrown_0 : decode cX4_thrown 0 = .ok (.aload_n 0, 1) := by decide +kernel
theorem dX4_thrown_1 : decode cX4_thrown 1 = .ok (.getfield 28, 3) := by decide +kernel
theorem dX4_thrown_4 : decode cX4_thrown 4 = .ok (.ireturn, 1) := by decide +kernel
theorem dX4_fail_0 : decode cX4_fail 0 = .ok (.aload_n 0, 1) := by decide +kernel
theorem dX4_fail_1 : decode cX4_fail 1 = .ok (.iload_n 1, 1) := by decide +kernel
theorem dX4_fail_2 : decode cX4_fail 2 = .ok (.putfield 28, 3) := by decide +kernel
theorem dX4_fail_5 : decode cX4_fail 5 = .ok (.iconst 0, 1) := by decide +kernel
theorem dX4_fail_6 : decode cX4_fail 6 = .ok (.ireturn, 1) := by decide +kernel
theorem dX4_isIn_0 : decode cX4_isIn 0 = .ok (.iload_n 0, 1) := by decide +kernel
theorem dX4_isIn_1 : decode cX4_isIn 1 = .ok (.iload_n 1, 1) := by decide +kernel
theorem dX4_isIn_2 : decode cX4_isIn 2 = .ok (.if_icmp .lt 12, 3) := by decide +kernel
theorem dX4_isIn_5 : decode cX4_isIn 5 = .ok (.iload_n 0, 1) := by decide +kernel
theorem dX4_isIn_6 : decode cX4_isIn 6 = .ok (.iload_n 2, 1) := by decide +kernel
theorem dX4_isIn_7 : decode cX4_isIn 7 = .ok (.if_icmp .gt 7, 3) := by decide +kernel
theorem dX4_isIn_10 : decode cX4_isIn 10 = .ok (.iconst 1, 1) := by decide +kernel
theorem dX4_isIn_11 : decode cX4_isIn 11 = .ok (.goto 4, 3) := by decide +kernel
theorem dX4_isIn_14 : decode cX4_isIn 14 = .ok (.iconst 0, 1) := by decide +kernel
theorem dX4_isIn_15 : decode cX4_isIn 15 = .ok (.ireturn, 1) := by decide +kernel
set_option maxRecDepth 20000 in
theorem ggX4_isAge_X4_isIn : GoodIn wsX4_isAge wsX4_isIn := goodIn_r _ [4] (by decide +kernel) (by decide +kernel)
set_option maxRecDepth 20000 in
theorem gX4_isAge_X4_isIn : GoodIn wsX4_isAge (va_wsS RX4 32 yX4_isIn wsX4_isIn) := goodIn_app (goodIn_of _ (by decide +kernel)) ggX4_isAge_X4_isIn
theorem dX4_isAge_0 : decode cX4_isAge 0 = .ok (.iload_n 0, 1) := by decide +kernel
theorem dX4_isAge_1 : decode cX4_isAge 1 = .ok (.bipush 50, 2) := by decide +kernel
theorem dX4_isAge_3 : decode cX4_isAge 3 = .ok (.bipush 99, 2) := by decide +kernel
theorem dX4_isAge_5 : decode cX4_isAge 5 = .ok (.invokestatic 32, 3) := by decide +kernel
theorem dX4_isAge_8 : decode cX4_isAge 8 = .ok (.ireturn, 1) := by decide +kernel
set_option maxRecDepth 20000 in
theorem ggX4_isLate_X4_isIn : GoodIn wsX4_isLate wsX4_isIn := goodIn_r _ [4] (by decide +kernel) (by decide +kernel)
set_option maxRecDepth 20000 in
theorem gX4_isLate_X4_isIn : GoodIn wsX4_isLate (va_wsS RX4 32 yX4_isIn wsX4_isIn) := goodIn_app (goodIn_of _ (by decide +kernel)) ggX4_isLate_X4_isIn
theorem dX4_isLate_0 : decode cX4_isLate 0 = .ok (.iload_n 0, 1) := by decide +kernel
theorem dX4_isLate_1 : decode cX4_isLate 1 = .ok (.iconst 0, 1) := by decide +kernel
theorem dX4_isLate_2 : decode cX4_isLate 2 = .ok (.bipush 30, 2) := by decide +kernel
theorem dX4_isLate_4 : decode cX4_isLate 4 = .ok (.invokestatic 32, 3) := by decide +kernel
theorem dX4_isLate_7 : decode cX4_isLate 7 = .ok (.ireturn, 1) := by decide +kernel
set_option maxRecDepth 20000 in
theorem ggX4_isSum_X4_isIn : GoodIn wsX4_isSum wsX4_isIn := goodIn_r _ [4] (by decide +kernel) (by decide +kernel)
set_option maxRecDepth 20000 in
theorem gX4_isSum_X4_isIn : GoodIn wsX4_isSum (va_wsS RX4 32 yX4_isIn wsX4_isIn) := goodIn_app (goodIn_of _ (by decide +kernel)) ggX4_isSum_X4_isIn
theorem dX4_isSum_0 : decode cX4_isSum 0 = .ok (.iload_n 0, 1) := by decide +kernel
theorem dX4_isSum_1 : decode cX4_isSum 1 = .ok (.iconst 1, 1) := by decide +kernel
theorem dX4_isSum_2 : decode cX4_isSum 2 = .ok (.sipush 999, 3) := by decide +kernel
theorem dX4_isSum_5 : decode cX4_isSum 5 = .ok (.invokestatic 32, 3) := by decide +kernel
theorem dX4_isSum_8 : decode cX4_isSum 8 = .ok (.ireturn, 1) := by decide +kernel
set_option maxRecDepth 20000 in
theorem ggX4_isWidow_X4_isIn : GoodIn wsX4_isWidow wsX4_isIn := goodIn_r _ [5] (by decide +kernel) (by decide +kernel)
set_option maxRecDepth 20000 in
theorem gX4_isWidow_X4_isIn : GoodIn wsX4_isWidow (va_wsS RX4 32 yX4_isIn wsX4_isIn) := goodIn_app (goodIn_of _ (by decide +kernel)) ggX4_isWidow_X4_isIn
theorem dX4_isWidow_0 : decode cX4_isWidow 0 = .ok (.iload_n 1, 1) := by decide +kernel
theorem dX4_isWidow_1 : decode cX4_isWidow 1 = .ok (.iconst 0, 1) := by decide +kernel
theorem dX4_isWidow_2 : decode cX4_isWidow 2 = .ok (.aload_n 0, 1) := by decide +kernel
theorem dX4_isWidow_3 : decode cX4_isWidow 3 = .ok (.getfield 36, 3) := by decide +kernel
theorem dX4_isWidow_6 : decode cX4_isWidow 6 = .ok (.iconst 1, 1) := by decide +kernel
theorem dX4_isWidow_7 : decode cX4_isWidow 7 = .ok (.isub, 1) := by decide +kernel
theorem dX4_isWidow_8 : decode cX4_isWidow 8 = .ok (.invokestatic 32, 3) := by decide +kernel
theorem dX4_isWidow_11 : decode cX4_isWidow 11 = .ok (.ireturn, 1) := by decide +kernel
theorem dX4_wi_0 : decode cX4_wi 0 = .ok (.aload_n 0, 1) := by decide +kernel
theorem dX4_wi_1 : decode cX4_wi 1 = .ok (.getfield 16, 3) := by decide +kernel
theorem dX4_wi_4 : decode cX4_wi 4 = .ok (.bipush 7, 2) := by decide +kernel
end
section
theorem dX4_wi_6 : decode cX4_wi 6 = .ok (.iload_n 1, 1) := by decide +kernel
theorem dX4_wi_7 : decode cX4_wi 7 = .ok (.imul, 1) := by decide +kernel
theorem dX4_wi_8 : decode cX4_wi 8 = .ok (.iload_n 2, 1) := by decide +kernel
theorem dX4_wi_9 : decode cX4_wi 9 = .ok (.iadd, 1) := by decide +kernel
theorem dX4_wi_10 : decode cX4_wi 10 = .ok (.iaload, 1) := by decide +kernel
theorem dX4_wi_11 : decode cX4_wi 11 = .ok (.ireturn, 1) := by decide +kernel
theorem dX4_let_0 : decode cX4_let 0 = .ok (.aload_n 0, 1) := by decide +kernel
theorem dX4_let_1 : decode cX4_let 1 = .ok (.getfield 16, 3) := by decide +kernel
theorem dX4_let_4 : decode cX4_let 4 = .ok (.bipush 7, 2) := by decide +kernel
theorem dX4_let_6 : decode cX4_let 6 = .ok (.iload_n 1, 1) := by decide +kernel
theorem dX4_let_7 : decode cX4_let 7 = .ok (.imul, 1) := by decide +kernel
theorem dX4_let_8 : decode cX4_let 8 = .ok (.iload_n 2, 1) := by decide +kernel
theorem dX4_let_9 : decode cX4_let 9 = .ok (.iadd, 1) := by decide +kernel
theorem dX4_let_10 : decode cX4_let 10 = .ok (.iload_n 3, 1) := by decide +kernel
theorem dX4_let_11 : decode cX4_let 11 = .ok (.iastore, 1) := by decide +kernel
theorem dX4_let_12 : decode cX4_let 12 = .ok (.return_, 1) := by decide +kernel
set_option maxRecDepth 20000 in
theorem ggX4_isAlive_X4_wi : GoodIn wsX4_isAlive wsX4_wi := goodIn_r _ [5, 6, 7, 8, 9, 10, 11, 12, 13] (by decide +kernel) (by decide +kernel)
set_option maxRecDepth 20000 in
theorem gX4_isAlive_X4_wi : GoodIn wsX4_isAlive (wsV RX4 39 RX4 yX4_wi wsX4_wi) := goodIn_app (goodIn_of _ (by decide +kernel)) ggX4_isAlive_X4_wi
theorem dX4_isAlive_0 : decode cX4_isAlive 0 = .ok (.aload_n 0, 1) := by decide +kernel
theorem dX4_isAlive_1 : decode cX4_isAlive 1 = .ok (.iload_n 1, 1) := by decide +kernel
theorem dX4_isAlive_2 : decode cX4_isAlive 2 = .ok (.iconst 4, 1) := by decide +kernel
theorem dX4_isAlive_3 : decode cX4_isAlive 3 = .ok (.invokevirtual 39, 3) := by decide +kernel
theorem dX4_isAlive_6 : decode cX4_isAlive 6 = .ok (.ifCond .ne 7, 3) := by decide +kernel
theorem dX4_isAlive_9 : decode cX4_isAlive 9 = .ok (.iconst 1, 1) := by decide +kernel
theorem dX4_isAlive_10 : decode cX4_isAlive 10 = .ok (.goto 4, 3) := by decide +kernel
theorem dX4_isAlive_13 : decode cX4_isAlive 13 = .ok (.iconst 0, 1) := by decide +kernel
theorem dX4_isAlive_14 : decode cX4_isAlive 14 = .ok (.ireturn, 1) := by decide +kernel
theorem dX4_reckon_0 : decode cX4_reckon 0 = .ok (.iconst 0, 1) := by decide +kernel
theorem dX4_reckon_1 : decode cX4_reckon 1 = .ok (.istore_n 1, 1) := by decide +kernel
theorem dX4_reckon_2 : decode cX4_reckon 2 = .ok (.iload_n 1, 1) := by decide +kernel
theorem dX4_reckon_3 : decode cX4_reckon 3 = .ok (.bipush 30, 2) := by decide +kernel
theorem dX4_reckon_5 : decode cX4_reckon 5 = .ok (.if_icmp .gt 91, 3) := by decide +kernel
theorem dX4_reckon_8 : decode cX4_reckon 8 = .ok (.bipush 49, 2) := by decide +kernel
theorem dX4_reckon_10 : decode cX4_reckon 10 = .ok (.istore_n 2, 1) := by decide +kernel
theorem dX4_reckon_11 : decode cX4_reckon 11 = .ok (.iload_n 2, 1) := by decide +kernel
theorem dX4_reckon_12 : decode cX4_reckon 12 = .ok (.ifCond .lt 78, 3) := by decide +kernel
theorem dX4_reckon_15 : decode cX4_reckon 15 = .ok (.iload_n 1, 1) := by decide +kernel
theorem dX4_reckon_16 : decode cX4_reckon 16 = .ok (.ifCond .ne 18, 3) := by decide +kernel
theorem dX4_reckon_19 : decode cX4_reckon 19 = .ok (.sipush 1000, 3) := by decide +kernel
theorem dX4_reckon_22 : decode cX4_reckon 22 = .ok (.aload_n 0, 1) := by decide +kernel
theorem dX4_reckon_23 : decode cX4_reckon 23 = .ok (.getfield 22, 3) := by decide +kernel
theorem dX4_reckon_26 : decode cX4_reckon 26 = .ok (.iload_n 2, 1) := by decide +kernel
theorem dX4_reckon_27 : decode cX4_reckon 27 = .ok (.iconst 1, 1) := by decide +kernel
theorem dX4_reckon_28 : decode cX4_reckon 28 = .ok (.iadd, 1) := by decide +kernel
theorem dX4_reckon_29 : decode cX4_reckon 29 = .ok (.iaload, 1) := by decide +kernel
theorem dX4_reckon_30 : decode cX4_reckon 30 = .ok (.iadd, 1) := by decide +kernel
theorem dX4_reckon_31 : decode cX4_reckon 31 = .ok (.goto 18, 3) := by decide +kernel
theorem dX4_reckon_34 : decode cX4_reckon 34 = .ok (.aload_n 0, 1) := by decide +kernel
theorem dX4_reckon_35 : decode cX4_reckon 35 = .ok (.getfield 22, 3) := by decide +kernel
theorem dX4_reckon_38 : decode cX4_reckon 38 = .ok (.bipush 51, 2) := by decide +kernel
theorem dX4_reckon_40 : decode cX4_reckon 40 = .ok (.iload_n 1, 1) := by decide +kernel
theorem dX4_reckon_41 : decode cX4_reckon 41 = .ok (.iconst 1, 1) := by decide +kernel
theorem dX4_reckon_42 : decode cX4_reckon 42 = .ok (.isub, 1) := by decide +kernel
theorem dX4_reckon_43 : decode cX4_reckon 43 = .ok (.imul, 1) := by decide +kernel
theorem dX4_reckon_44 : decode cX4_reckon 44 = .ok (.iload_n 2, 1) := by decide +kernel
theorem dX4_reckon_45 : decode cX4_reckon 45 = .ok (.iadd, 1) := by decide +kernel
theorem dX4_reckon_46 : decode cX4_reckon 46 = .ok (.iconst 1, 1) := by decide +kernel
theorem dX4_reckon_47 : decode cX4_reckon 47 = .ok (.iadd, 1) := by decide +kernel
theorem dX4_reckon_48 : decode cX4_reckon 48 = .ok (.iaload, 1) := by decide +kernel
theorem dX4_reckon_49 : decode cX4_reckon 49 = .ok (.istore_n 3, 1) := by decide +kernel
theorem dX4_reckon_50 : decode cX4_reckon 50 = .ok (.aload_n 0, 1) := by decide +kernel
theorem dX4_reckon_51 : decode cX4_reckon 51 = .ok (.getfield 22, 3) := by decide +kernel
theorem dX4_reckon_54 : decode cX4_reckon 54 = .ok (.bipush 51, 2) := by decide +kernel
theorem dX4_reckon_56 : decode cX4_reckon 56 = .ok (.iload_n 1, 1) := by decide +kernel
theorem dX4_reckon_57 : decode cX4_reckon 57 = .ok (.imul, 1) := by decide +kernel
theorem dX4_reckon_58 : decode cX4_reckon 58 = .ok (.iload_n 2, 1) := by decide +kernel
theorem dX4_reckon_59 : decode cX4_reckon 59 = .ok (.iadd, 1) := by decide +kernel
theorem dX4_reckon_60 : decode cX4_reckon 60 = .ok (.sipush 1000, 3) := by decide +kernel
theorem dX4_reckon_63 : decode cX4_reckon 63 = .ok (.aload_n 0, 1) := by decide +kernel
theorem dX4_reckon_64 : decode cX4_reckon 64 = .ok (.getfield 13, 3) := by decide +kernel
theorem dX4_reckon_67 : decode cX4_reckon 67 = .ok (.iload_n 2, 1) := by decide +kernel
theorem dX4_reckon_68 : decode cX4_reckon 68 = .ok (.iaload, 1) := by decide +kernel
theorem dX4_reckon_69 : decode cX4_reckon 69 = .ok (.isub, 1) := by decide +kernel
theorem dX4_reckon_70 : decode cX4_reckon 70 = .ok (.iload_n 3, 1) := by decide +kernel
theorem dX4_reckon_71 : decode cX4_reckon 71 = .ok (.imul, 1) := by decide +kernel
theorem dX4_reckon_72 : decode cX4_reckon 72 = .ok (.sipush 1000, 3) := by decide +kernel
theorem dX4_reckon_75 : decode cX4_reckon 75 = .ok (.aload_n 0, 1) := by decide +kernel
theorem dX4_reckon_76 : decode cX4_reckon 76 = .ok (.getfield 7, 3) := by decide +kernel
theorem dX4_reckon_79 : decode cX4_reckon 79 = .ok (.iconst 0, 1) := by decide +kernel
theorem dX4_reckon_80 : decode cX4_reckon 80 = .ok (.iaload, 1) := by decide +kernel
theorem dX4_reckon_81 : decode cX4_reckon 81 = .ok (.iadd, 1) := by decide +kernel
theorem dX4_reckon_82 : decode cX4_reckon 82 = .ok (.idiv, 1) := by decide +kernel
theorem dX4_reckon_83 : decode cX4_reckon 83 = .ok (.iastore, 1) := by decide +kernel
theorem dX4_reckon_84 : decode cX4_reckon 84 = .ok (.iinc 2 (-1), 3) := by decide +kernel
theorem dX4_reckon_87 : decode cX4_reckon 87 = .ok (.goto (-76), 3) := by decide +kernel
theorem dX4_reckon_90 : decode cX4_reckon 90 = .ok (.iinc 1 1, 3) := by decide +kernel
theorem dX4_reckon_93 : decode cX4_reckon 93 = .ok (.goto (-91), 3) := by decide +kernel
theorem dX4_reckon_96 : decode cX4_reckon 96 = .ok (.return_, 1) := by decide +kernel
theorem dX4_worthOf_0 : decode cX4_worthOf 0 = .ok (.aload_n 0, 1) := by decide +kernel
theorem dX4_worthOf_1 : decode cX4_worthOf 1 = .ok (.getfield 22, 3) := by decide +kernel
theorem dX4_worthOf_4 : decode cX4_worthOf 4 = .ok (.bipush 51, 2) := by decide +kernel
theorem dX4_worthOf_6 : decode cX4_worthOf 6 = .ok (.iload_n 2, 1) := by decide +kernel
theorem dX4_worthOf_7 : decode cX4_worthOf 7 = .ok (.imul, 1) := by decide +kernel
theorem dX4_worthOf_8 : decode cX4_worthOf 8 = .ok (.iload_n 1, 1) := by decide +kernel
theorem dX4_worthOf_9 : decode cX4_worthOf 9 = .ok (.iadd, 1) := by decide +kernel
theorem dX4_worthOf_10 : decode cX4_worthOf 10 = .ok (.bipush 50, 2) := by decide +kernel
theorem dX4_worthOf_12 : decode cX4_worthOf 12 = .ok (.isub, 1) := by decide +kernel
theorem dX4_worthOf_13 : decode cX4_worthOf 13 = .ok (.iaload, 1) := by decide +kernel
theorem dX4_worthOf_14 : decode cX4_worthOf 14 = .ok (.ireturn, 1) := by decide +kernel
set_option maxRecDepth 20000 in
theorem ggX4_priceOf_X4_worthOf : GoodIn wsX4_priceOf wsX4_worthOf := goodIn_r _ [10, 11, 12, 13, 14, 15, 16, 17, 18] (by decide +kernel) (by decide +kernel)
set_option maxRecDepth 20000 in
theorem gX4_priceOf_X4_worthOf : GoodIn wsX4_priceOf (wsV RX4 43 RX4 yX4_worthOf wsX4_worthOf) := goodIn_app (goodIn_of _ (by decide +kernel)) ggX4_priceOf_X4_worthOf
theorem dX4_priceOf_0 : decode cX4_priceOf 0 = .ok (.iload_n 2, 1) := by decide +kernel
theorem dX4_priceOf_1 : decode cX4_priceOf 1 = .ok (.aload_n 0, 1) := by decide +kernel
theorem dX4_priceOf_2 : decode cX4_priceOf 2 = .ok (.iload_n 1, 1) := by decide +kernel
theorem dX4_priceOf_3 : decode cX4_priceOf 3 = .ok (.iload_n 3, 1) := by decide +kernel
theorem dX4_priceOf_4 : decode cX4_priceOf 4 = .ok (.invokevirtual 43, 3) := by decide +kernel
theorem dX4_priceOf_7 : decode cX4_priceOf 7 = .ok (.imul, 1) := by decide +kernel
theorem dX4_priceOf_8 : decode cX4_priceOf 8 = .ok (.sipush 1000, 3) := by decide +kernel
theorem dX4_priceOf_11 : decode cX4_priceOf 11 = .ok (.idiv, 1) := by decide +kernel
theorem dX4_priceOf_12 : decode cX4_priceOf 12 = .ok (.istore 4, 2) := by decide +kernel
theorem dX4_priceOf_14 : decode cX4_priceOf 14 = .ok (.aload_n 0, 1) := by decide +kernel
theorem dX4_priceOf_15 : decode cX4_priceOf 15 = .ok (.iload_n 1, 1) := by decide +kernel
theorem dX4_priceOf_16 : decode cX4_priceOf 16 = .ok (.iload_n 3, 1) := by decide +kernel
theorem dX4_priceOf_17 : decode cX4_priceOf 17 = .ok (.invokevirtual 43, 3) := by decide +kernel
theorem dX4_priceOf_20 : decode cX4_priceOf 20 = .ok (.ifCond .ne 7, 3) := by decide +kernel
theorem dX4_priceOf_23 : decode cX4_priceOf 23 = .ok (.iconst 0, 1) := by decide +kernel
theorem dX4_priceOf_24 : decode cX4_priceOf 24 = .ok (.goto 22, 3) := by decide +kernel
theorem dX4_priceOf_27 : decode cX4_priceOf 27 = .ok (.iconst 1, 1) := by decide +kernel
theorem dX4_priceOf_28 : decode cX4_priceOf 28 = .ok (.iload 4, 2) := by decide +kernel
theorem dX4_priceOf_30 : decode cX4_priceOf 30 = .ok (.iload 4, 2) := by decide +kernel
theorem dX4_priceOf_32 : decode cX4_priceOf 32 = .ok (.aload_n 0, 1) := by decide +kernel
theorem dX4_priceOf_33 : decode cX4_priceOf 33 = .ok (.getfield 7, 3) := by decide +kernel
theorem dX4_priceOf_36 : decode cX4_priceOf 36 = .ok (.iconst 1, 1) := by decide +kernel
theorem dX4_priceOf_37 : decode cX4_priceOf 37 = .ok (.iaload, 1) := by decide +kernel
theorem dX4_priceOf_38 : decode cX4_priceOf 38 = .ok (.imul, 1) := by decide +kernel
theorem dX4_priceOf_39 : decode cX4_priceOf 39 = .ok (.bipush 100, 2) := by decide +kernel
theorem dX4_priceOf_41 : decode cX4_priceOf 41 = .ok (.idiv, 1) := by decide +kernel
theorem dX4_priceOf_42 : decode cX4_priceOf 42 = .ok (.iadd, 1) := by decide +kernel
theorem dX4_priceOf_43 : decode cX4_priceOf 43 = .ok (.invokestatic 46, 3) := by decide +kernel
theorem dX4_priceOf_46 : decode cX4_priceOf 46 = .ok (.ireturn, 1) := by decide +kernel
set_option maxRecDepth 20000 in
theorem ggX4_kept_X4_isAlive : GoodIn wsX4_kept wsX4_isAlive := goodIn_r _ [5, 6, 7, 8, 4, 9, 10, 16, 17, 18, 19, 20, 21, 22] (by decide +kernel) (by decide +kernel)
set_option maxRecDepth 20000 in
theorem gX4_kept_X4_isAlive : GoodIn wsX4_kept (wsV RX4 51 RX4 yX4_isAlive wsX4_isAlive) := goodIn_app (goodIn_of _ (by decide +kernel)) ggX4_kept_X4_isAlive
set_option maxRecDepth 20000 in
theorem ggX4_kept_X4_wi : GoodIn wsX4_kept wsX4_wi := goodIn_r _ [9, 10, 16, 17, 18, 19, 20, 21, 22] (by decide +kernel) (by decide +kernel)
set_option maxRecDepth 20000 in
theorem gX4_kept_X4_wi : GoodIn wsX4_kept (wsV RX4 39 RX4 yX4_wi wsX4_wi) := goodIn_app (goodIn_of _ (by decide +kernel)) ggX4_kept_X4_wi
set_option maxRecDepth 20000 in
theorem ggX4_kept_X4_worthOf : GoodIn wsX4_kept wsX4_worthOf := goodIn_r _ [14, 15, 16, 17, 18, 19, 20, 21, 22] (by decide +kernel) (by decide +kernel)
set_option maxRecDepth 20000 in
theorem gX4_kept_X4_worthOf : GoodIn wsX4_kept (wsV RX4 43 RX4 yX4_worthOf wsX4_worthOf) := goodIn_app (goodIn_of _ (by decide +kernel)) ggX4_kept_X4_worthOf
theorem dX4_kept_0 : decode cX4_kept 0 = .ok (.aload_n 0, 1) := by decide +kernel
theorem dX4_kept_1 : decode cX4_kept 1 = .ok (.iload_n 1, 1) := by decide +kernel
theorem dX4_kept_2 : decode cX4_kept 2 = .ok (.invokevirtual 51, 3) := by decide +kernel
theorem dX4_kept_5 : decode cX4_kept 5 = .ok (.ifCond .eq 33, 3) := by decide +kernel
theorem dX4_kept_8 : decode cX4_kept 8 = .ok (.aload_n 0, 1) := by decide +kernel
theorem dX4_kept_9 : decode cX4_kept 9 = .ok (.iload_n 1, 1) := by decide +kernel
theorem dX4_kept_10 : decode cX4_kept 10 = .ok (.iconst 1, 1) := by decide +kernel
theorem dX4_kept_11 : decode cX4_kept 11 = .ok (.invokevirtual 39, 3) := by decide +kernel
theorem dX4_kept_14 : decode cX4_kept 14 = .ok (.aload_n 0, 1) := by decide +kernel
theorem dX4_kept_15 : decode cX4_kept 15 = .ok (.aload_n 0, 1) := by decide +kernel
theorem dX4_kept_16 : decode cX4_kept 16 = .ok (.iload_n 1, 1) := by decide +kernel
theorem dX4_kept_17 : decode cX4_kept 17 = .ok (.iconst 0, 1) := by decide +kernel
theorem dX4_kept_18 : decode cX4_kept 18 = .ok (.invokevirtual 39, 3) := by decide +kernel
theorem dX4_kept_21 : decode cX4_kept 21 = .ok (.aload_n 0, 1) := by decide +kernel
theorem dX4_kept_22 : decode cX4_kept 22 = .ok (.iload_n 1, 1) := by decide +kernel
theorem dX4_kept_23 : decode cX4_kept 23 = .ok (.iconst 2, 1) := by decide +kernel
theorem dX4_kept_24 : decode cX4_kept 24 = .ok (.invokevirtual 39, 3) := by decide +kernel
theorem dX4_kept_27 : decode cX4_kept 27 = .ok (.invokevirtual 43, 3) := by decide +kernel
theorem dX4_kept_30 : decode cX4_kept 30 = .ok (.imul, 1) := by decide +kernel
theorem dX4_kept_31 : decode cX4_kept 31 = .ok (.sipush 1000, 3) := by decide +kernel
theorem dX4_kept_34 : decode cX4_kept 34 = .ok (.idiv, 1) := by decide +kernel
theorem dX4_kept_35 : decode cX4_kept 35 = .ok (.goto 4, 3) := by decide +kernel
theorem dX4_kept_38 : decode cX4_kept 38 = .ok (.iconst 0, 1) := by decide +kernel
theorem dX4_kept_39 : decode cX4_kept 39 = .ok (.ireturn, 1) := by decide +kernel
set_option maxRecDepth 20000 in
theorem ggX4_keptForAll_X4_kept : GoodIn wsX4_keptForAll wsX4_kept := goodIn_r _ [6, 7, 8, 9, 5, 10, 11, 12, 13, 14, 15, 16, 17, 18, 19, 20, 21, 22, 23, 24, 25, 26, 27] (by decide +kernel) (by decide +kernel)
set_option maxRecDepth 20000 in
theorem gX4_keptForAll_X4_kept : GoodIn wsX4_keptForAll (wsV RX4 55 RX4 yX4_kept wsX4_kept) := goodIn_app (goodIn_of _ (by decide +kernel)) ggX4_keptForAll_X4_kept
theorem dX4_keptForAll_0 : decode cX4_keptForAll 0 = .ok (.iconst 0, 1) := by decide +kernel
theorem dX4_keptForAll_1 : decode cX4_keptForAll 1 = .ok (.istore_n 1, 1) := by decide +kernel
theorem dX4_keptForAll_2 : decode cX4_keptForAll 2 = .ok (.iconst 0, 1) := by decide +kernel
theorem dX4_keptForAll_3 : decode cX4_keptForAll 3 = .ok (.istore_n 2, 1) := by decide +kernel
theorem dX4_keptForAll_4 : decode cX4_keptForAll 4 = .ok (.iload_n 2, 1) := by decide +kernel
theorem dX4_keptForAll_5 : decode cX4_keptForAll 5 = .ok (.aload_n 0, 1) := by decide +kernel
theorem dX4_keptForAll_6 : decode cX4_keptForAll 6 = .ok (.getfield 36, 3) := by decide +kernel
theorem dX4_keptForAll_9 : decode cX4_keptForAll 9 = .ok (.if_icmp .ge 17, 3) := by decide +kernel
theorem dX4_keptForAll_12 : decode cX4_keptForAll 12 = .ok (.iload_n 1, 1) := by decide +kernel
theorem dX4_keptForAll_13 : decode cX4_keptForAll 13 = .ok (.aload_n 0, 1) := by decide +kernel
theorem dX4_keptForAll_14 : decode cX4_keptForAll 14 = .ok (.iload_n 2, 1) := by decide +kernel
theorem dX4_keptForAll_15 : decode cX4_keptForAll 15 = .ok (.invokevirtual 55, 3) := by decide +kernel
theorem dX4_keptForAll_18 : decode cX4_keptForAll 18 = .ok (.iadd, 1) := by decide +kernel
theorem dX4_keptForAll_19 : decode cX4_keptForAll 19 = .ok (.istore_n 1, 1) := by decide +kernel
theorem dX4_keptForAll_20 : decode cX4_keptForAll 20 = .ok (.iinc 2 1, 3) := by decide +kernel
theorem dX4_keptForAll_23 : decode cX4_keptForAll 23 = .ok (.goto (-19), 3) := by decide +kernel
theorem dX4_keptForAll_26 : decode cX4_keptForAll 26 = .ok (.iload_n 1, 1) := by decide +kernel
theorem dX4_keptForAll_27 : decode cX4_keptForAll 27 = .ok (.ireturn, 1) := by decide +kernel
set_option maxRecDepth 20000 in
theorem ggX4_back_X4_isAlive : GoodIn wsX4_back wsX4_isAlive := goodIn_r _ [6, 7, 8, 9, 5, 10, 11, 21, 22, 23, 24, 25, 26, 27] (by decide +kernel) (by decide +kernel)
set_option maxRecDepth 20000 in
theorem gX4_back_X4_isAlive : GoodIn wsX4_back (wsV RX4 51 RX4 yX4_isAlive wsX4_isAlive) := goodIn_app (goodIn_of _ (by decide +kernel)) ggX4_back_X4_isAlive
set_option maxRecDepth 20000 in
theorem ggX4_back_X4_wi : GoodIn wsX4_back wsX4_wi := goodIn_r _ [10, 11, 21, 22, 23, 24, 25, 26, 27] (by decide +kernel) (by decide +kernel)
set_option maxRecDepth 20000 in
theorem gX4_back_X4_wi : GoodIn wsX4_back (wsV RX4 39 RX4 yX4_wi wsX4_wi) := goodIn_app (goodIn_of _ (by decide +kernel)) ggX4_back_X4_wi
set_option maxRecDepth 20000 in
theorem ggX4_back_X4_kept : GoodIn wsX4_back wsX4_kept := goodIn_r _ [15, 2, 3, 4, 5, 6, 7, 8, 9, 10, 11, 16, 17, 18, 19, 20, 21, 22, 23, 24, 25, 26, 27] (by decide +kernel) (by decide +kernel)
set_option maxRecDepth 20000 in
theorem gX4_back_X4_kept : GoodIn wsX4_back (wsV RX4 55 RX4 yX4_kept wsX4_kept) := goodIn_app (goodIn_of _ (by decide +kernel)) ggX4_back_X4_kept
theorem dX4_back_0 : decode cX4_back 0 = .ok (.aload_n 0, 1) := by decide +kernel
theorem dX4_back_1 : decode cX4_back 1 = .ok (.iload_n 1, 1) := by decide +kernel
theorem dX4_back_2 : decode cX4_back 2 = .ok (.invokevirtual 51, 3) := by decide +kernel
theorem dX4_back_5 : decode cX4_back 5 = .ok (.ifCond .eq 13, 3) := by decide +kernel
theorem dX4_back_8 : decode cX4_back 8 = .ok (.aload_n 0, 1) := by decide +kernel
theorem dX4_back_9 : decode cX4_back 9 = .ok (.iload_n 1, 1) := by decide +kernel
theorem dX4_back_10 : decode cX4_back 10 = .ok (.iconst 3, 1) := by decide +kernel
theorem dX4_back_11 : decode cX4_back 11 = .ok (.invokevirtual 39, 3) := by decide +kernel
theorem dX4_back_14 : decode cX4_back 14 = .ok (.iconst 2, 1) := by decide +kernel
theorem dX4_back_15 : decode cX4_back 15 = .ok (.if_icmp .ge 7, 3) := by decide +kernel
theorem dX4_back_18 : decode cX4_back 18 = .ok (.iconst 0, 1) := by decide +kernel
theorem dX4_back_19 : decode cX4_back 19 = .ok (.goto 24, 3) := by decide +kernel
theorem dX4_back_22 : decode cX4_back 22 = .ok (.aload_n 0, 1) := by decide +kernel
theorem dX4_back_23 : decode cX4_back 23 = .ok (.iload_n 1, 1) := by decide +kernel
theorem dX4_back_24 : decode cX4_back 24 = .ok (.invokevirtual 55, 3) := by decide +kernel
theorem dX4_back_27 : decode cX4_back 27 = .ok (.aload_n 0, 1) := by decide +kernel
theorem dX4_back_28 : decode cX4_back 28 = .ok (.iload_n 1, 1) := by decide +kernel
theorem dX4_back_29 : decode cX4_back 29 = .ok (.invokevirtual 55, 3) := by decide +kernel
theorem dX4_back_32 : decode cX4_back 32 = .ok (.aload_n 0, 1) := by decide +kernel
theorem dX4_back_33 : decode cX4_back 33 = .ok (.getfield 7, 3) := by decide +kernel
theorem dX4_back_36 : decode cX4_back 36 = .ok (.iconst 2, 1) := by decide +kernel
theorem dX4_back_37 : decode cX4_back 37 = .ok (.iaload, 1) := by decide +kernel
theorem dX4_back_38 : decode cX4_back 38 = .ok (.imul, 1) := by decide +kernel
theorem dX4_back_39 : decode cX4_back 39 = .ok (.bipush 100, 2) := by decide +kernel
theorem dX4_back_41 : decode cX4_back 41 = .ok (.idiv, 1) := by decide +kernel
theorem dX4_back_42 : decode cX4_back 42 = .ok (.isub, 1) := by decide +kernel
theorem dX4_back_43 : decode cX4_back 43 = .ok (.ireturn, 1) := by decide +kernel
theorem dX4_comeIn_0 : decode cX4_comeIn 0 = .ok (.aload_n 0, 1) := by decide +kernel
theorem dX4_comeIn_1 : decode cX4_comeIn 1 = .ok (.getfield 19, 3) := by decide +kernel
theorem dX4_comeIn_4 : decode cX4_comeIn 4 = .ok (.iconst 1, 1) := by decide +kernel
theorem dX4_comeIn_5 : decode cX4_comeIn 5 = .ok (.ldc2_w 59, 3) := by decide +kernel
theorem dX4_comeIn_8 : decode cX4_comeIn 8 = .ok (.aload_n 0, 1) := by decide +kernel
theorem dX4_comeIn_9 : decode cX4_comeIn 9 = .ok (.getfield 19, 3) := by decide +kernel
theorem dX4_comeIn_12 : decode cX4_comeIn 12 = .ok (.iconst 1, 1) := by decide +kernel
theorem dX4_comeIn_13 : decode cX4_comeIn 13 = .ok (.iaload, 1) := by decide +kernel
theorem dX4_comeIn_14 : decode cX4_comeIn 14 = .ok (.i2l, 1) := by decide +kernel
theorem dX4_comeIn_15 : decode cX4_comeIn 15 = .ok (.lload_n 1, 1) := by decide +kernel
theorem dX4_comeIn_16 : decode cX4_comeIn 16 = .ok (.ladd, 1) := by decide +kernel
theorem dX4_comeIn_17 : decode cX4_comeIn 17 = .ok (.invokestatic 61, 3) := by decide +kernel
theorem dX4_comeIn_20 : decode cX4_comeIn 20 = .ok (.l2i, 1) := by decide +kernel
theorem dX4_comeIn_21 : decode cX4_comeIn 21 = .ok (.iastore, 1) := by decide +kernel
theorem dX4_comeIn_22 : decode cX4_comeIn 22 = .ok (.return_, 1) := by decide +kernel
set_option maxRecDepth 20000 in
theorem ggX4_payOut_X4_wi : GoodIn wsX4_payOut wsX4_wi := goodIn_r _ [6, 7, 12, 13, 14, 15, 16, 17, 18] (by decide +kernel) (by decide +kernel)
set_option maxRecDepth 20000 in
theorem gX4_payOut_X4_wi : GoodIn wsX4_payOut (wsV RX4 39 RX4 yX4_wi wsX4_wi) := goodIn_app (goodIn_of _ (by decide +kernel)) ggX4_payOut_X4_wi
set_option maxRecDepth 20000 in
theorem ggX4_payOut_X4_let : GoodIn wsX4_payOut wsX4_let := goodIn_r _ [11, 7, 12, 13, 14, 15, 16, 17, 18] (by decide +kernel) (by decide +kernel)
set_option maxRecDepth 20000 in
theorem gX4_payOut_X4_let : GoodIn wsX4_payOut (wsV RX4 65 RX4 yX4_let wsX4_let) := goodIn_app (goodIn_of _ (by decide +kernel)) ggX4_payOut_X4_let
theorem dX4_payOut_0 : decode cX4_payOut 0 = .ok (.aload_n 0, 1) := by decide +kernel
theorem dX4_payOut_1 : decode cX4_payOut 1 = .ok (.getfield 19, 3) := by decide +kernel
theorem dX4_payOut_4 : decode cX4_payOut 4 = .ok (.iconst 1, 1) := by decide +kernel
theorem dX4_payOut_5 : decode cX4_payOut 5 = .ok (.dup2, 1) := by decide +kernel
theorem dX4_payOut_6 : decode cX4_payOut 6 = .ok (.iaload, 1) := by decide +kernel
theorem dX4_payOut_7 : decode cX4_payOut 7 = .ok (.iload_n 2, 1) := by decide +kernel
theorem dX4_payOut_8 : decode cX4_payOut 8 = .ok (.isub, 1) := by decide +kernel
theorem dX4_payOut_9 : decode cX4_payOut 9 = .ok (.iastore, 1) := by decide +kernel
theorem dX4_payOut_10 : decode cX4_payOut 10 = .ok (.aload_n 0, 1) := by decide +kernel
theorem dX4_payOut_11 : decode cX4_payOut 11 = .ok (.getfield 19, 3) := by decide +kernel
theorem dX4_payOut_14 : decode cX4_payOut 14 = .ok (.iconst 2, 1) := by decide +kernel
theorem dX4_payOut_15 : decode cX4_payOut 15 = .ok (.dup2, 1) := by decide +kernel
theorem dX4_payOut_16 : decode cX4_payOut 16 = .ok (.iaload, 1) := by decide +kernel
theorem dX4_payOut_17 : decode cX4_payOut 17 = .ok (.iload_n 2, 1) := by decide +kernel
theorem dX4_payOut_18 : decode cX4_payOut 18 = .ok (.iadd, 1) := by decide +kernel
theorem dX4_payOut_19 : decode cX4_payOut 19 = .ok (.iastore, 1) := by decide +kernel
theorem dX4_payOut_20 : decode cX4_payOut 20 = .ok (.aload_n 0, 1) := by decide +kernel
theorem dX4_payOut_21 : decode cX4_payOut 21 = .ok (.iload_n 1, 1) := by decide +kernel
theorem dX4_payOut_22 : decode cX4_payOut 22 = .ok (.iconst 5, 1) := by decide +kernel
theorem dX4_payOut_23 : decode cX4_payOut 23 = .ok (.aload_n 0, 1) := by decide +kernel
theorem dX4_payOut_24 : decode cX4_payOut 24 = .ok (.iload_n 1, 1) := by decide +kernel
theorem dX4_payOut_25 : decode cX4_payOut 25 = .ok (.iconst 5, 1) := by decide +kernel
theorem dX4_payOut_26 : decode cX4_payOut 26 = .ok (.invokevirtual 39, 3) := by decide +kernel
theorem dX4_payOut_29 : decode cX4_payOut 29 = .ok (.iload_n 2, 1) := by decide +kernel
theorem dX4_payOut_30 : decode cX4_payOut 30 = .ok (.iadd, 1) := by decide +kernel
theorem dX4_payOut_31 : decode cX4_payOut 31 = .ok (.invokevirtual 65, 3) := by decide +kernel
theorem dX4_payOut_34 : decode cX4_payOut 34 = .ok (.return_, 1) := by decide +kernel
set_option maxRecDepth 20000 in
theorem ggX4_setDeaths_X4_isAge : GoodIn wsX4_setDeaths wsX4_isAge := goodIn_r _ [6, 7, 8, 5, 9] (by decide +kernel) (by decide +kernel)
set_option maxRecDepth 20000 in
theorem gX4_setDeaths_X4_isAge : GoodIn wsX4_setDeaths (va_wsS RX4 69 yX4_isAge wsX4_isAge) := goodIn_app (goodIn_of _ (by decide +kernel)) ggX4_setDeaths_X4_isAge
set_option maxRecDepth 20000 in
theorem ggX4_setDeaths_X4_fail : GoodIn wsX4_setDeaths wsX4_fail := goodIn_r _ [13, 1, 20, 21, 22, 23, 24, 25, 26] (by decide +kernel) (by decide +kernel)
set_option maxRecDepth 20000 in
theorem gX4_setDeaths_X4_fail : GoodIn wsX4_setDeaths (wsV RX4 72 RX4 yX4_fail wsX4_fail) := goodIn_app (goodIn_of _ (by decide +kernel)) ggX4_setDeaths_X4_fail
set_option maxRecDepth 20000 in
theorem ggX4_setDeaths_X4_isIn : GoodIn wsX4_setDeaths wsX4_isIn := goodIn_r _ [9] (by decide +kernel) (by decide +kernel)
set_option maxRecDepth 20000 in
theorem gX4_setDeaths_X4_isIn : GoodIn wsX4_setDeaths (va_wsS RX4 32 yX4_isIn wsX4_isIn) := goodIn_app (goodIn_of _ (by decide +kernel)) ggX4_setDeaths_X4_isIn
set_option maxRecDepth 20000 in
theorem ggX4_setDeaths_X4_reckon : GoodIn wsX4_setDeaths wsX4_reckon := goodIn_r _ [17, 18, 2, 19, 20, 21, 22, 23, 24, 25, 26] (by decide +kernel) (by decide +kernel)
set_option maxRecDepth 20000 in
theorem gX4_setDeaths_X4_reckon : GoodIn wsX4_setDeaths (wsV RX4 25 RX4 yX4_reckon wsX4_reckon) := goodIn_app (goodIn_of _ (by decide +kernel)) ggX4_setDeaths_X4_reckon
theorem dX4_setDeaths_0 : decode cX4_setDeaths 0 = .ok (.aload_n 0, 1) := by decide +kernel
theorem dX4_setDeaths_1 : decode cX4_setDeaths 1 = .ok (.iconst 0, 1) := by decide +kernel
theorem dX4_setDeaths_2 : decode cX4_setDeaths 2 = .ok (.putfield 28, 3) := by decide +kernel
theorem dX4_setDeaths_5 : decode cX4_setDeaths 5 = .ok (.iload_n 1, 1) := by decide +kernel
theorem dX4_setDeaths_6 : decode cX4_setDeaths 6 = .ok (.invokestatic 69, 3) := by decide +kernel
theorem dX4_setDeaths_9 : decode cX4_setDeaths 9 = .ok (.ifCond .ne 9, 3) := by decide +kernel
theorem dX4_setDeaths_12 : decode cX4_setDeaths 12 = .ok (.aload_n 0, 1) := by decide +kernel
theorem dX4_setDeaths_13 : decode cX4_setDeaths 13 = .ok (.iconst 1, 1) := by decide +kernel
theorem dX4_setDeaths_14 : decode cX4_setDeaths 14 = .ok (.invokevirtual 72, 3) := by decide +kernel
theorem dX4_setDeaths_17 : decode cX4_setDeaths 17 = .ok (.ireturn, 1) := by decide +kernel
theorem dX4_setDeaths_18 : decode cX4_setDeaths 18 = .ok (.iload_n 2, 1) := by decide +kernel
theorem dX4_setDeaths_19 : decode cX4_setDeaths 19 = .ok (.iconst 0, 1) := by decide +kernel
theorem dX4_setDeaths_20 : decode cX4_setDeaths 20 = .ok (.sipush 1000, 3) := by decide +kernel
theorem dX4_setDeaths_23 : decode cX4_setDeaths 23 = .ok (.invokestatic 32, 3) := by decide +kernel
theorem dX4_setDeaths_26 : decode cX4_setDeaths 26 = .ok (.ifCond .ne 9, 3) := by decide +kernel
theorem dX4_setDeaths_29 : decode cX4_setDeaths 29 = .ok (.aload_n 0, 1) := by decide +kernel
theorem dX4_setDeaths_30 : decode cX4_setDeaths 30 = .ok (.iconst 2, 1) := by decide +kernel
theorem dX4_setDeaths_31 : decode cX4_setDeaths 31 = .ok (.invokevirtual 72, 3) := by decide +kernel
theorem dX4_setDeaths_34 : decode cX4_setDeaths 34 = .ok (.ireturn, 1) := by decide +kernel
theorem dX4_setDeaths_35 : decode cX4_setDeaths 35 = .ok (.aload_n 0, 1) := by decide +kernel
theorem dX4_setDeaths_36 : decode cX4_setDeaths 36 = .ok (.getfield 13, 3) := by decide +kernel
theorem dX4_setDeaths_39 : decode cX4_setDeaths 39 = .ok (.iload_n 1, 1) := by decide +kernel
theorem dX4_setDeaths_40 : decode cX4_setDeaths 40 = .ok (.bipush 50, 2) := by decide +kernel
theorem dX4_setDeaths_42 : decode cX4_setDeaths 42 = .ok (.isub, 1) := by decide +kernel
theorem dX4_setDeaths_43 : decode cX4_setDeaths 43 = .ok (.iaload, 1) := by decide +kernel
theorem dX4_setDeaths_44 : decode cX4_setDeaths 44 = .ok (.istore_n 3, 1) := by decide +kernel
theorem dX4_setDeaths_45 : decode cX4_setDeaths 45 = .ok (.aload_n 0, 1) := by decide +kernel
theorem dX4_setDeaths_46 : decode cX4_setDeaths 46 = .ok (.getfield 13, 3) := by decide +kernel
theorem dX4_setDeaths_49 : decode cX4_setDeaths 49 = .ok (.iload_n 1, 1) := by decide +kernel
theorem dX4_setDeaths_50 : decode cX4_setDeaths 50 = .ok (.bipush 50, 2) := by decide +kernel
theorem dX4_setDeaths_52 : decode cX4_setDeaths 52 = .ok (.isub, 1) := by decide +kernel
theorem dX4_setDeaths_53 : decode cX4_setDeaths 53 = .ok (.iload_n 2, 1) := by decide +kernel
theorem dX4_setDeaths_54 : decode cX4_setDeaths 54 = .ok (.iastore, 1) := by decide +kernel
theorem dX4_setDeaths_55 : decode cX4_setDeaths 55 = .ok (.aload_n 0, 1) := by decide +kernel
theorem dX4_setDeaths_56 : decode cX4_setDeaths 56 = .ok (.invokevirtual 25, 3) := by decide +kernel
theorem dX4_setDeaths_59 : decode cX4_setDeaths 59 = .ok (.iload_n 3, 1) := by decide +kernel
theorem dX4_setDeaths_60 : decode cX4_setDeaths 60 = .ok (.ireturn, 1) := by decide +kernel
set_option maxRecDepth 20000 in
theorem ggX4_setRate_X4_isIn : GoodIn wsX4_setRate wsX4_isIn := goodIn_r _ [7] (by decide +kernel) (by decide +kernel)
set_option maxRecDepth 20000 in
theorem gX4_setRate_X4_isIn : GoodIn wsX4_setRate (va_wsS RX4 32 yX4_isIn wsX4_isIn) := goodIn_app (goodIn_of _ (by decide +kernel)) ggX4_setRate_X4_isIn
set_option maxRecDepth 20000 in
theorem ggX4_setRate_X4_fail : GoodIn wsX4_setRate wsX4_fail := goodIn_r _ [11, 1, 18, 19, 20, 21, 22, 23, 24] (by decide +kernel) (by decide +kernel)
set_option maxRecDepth 20000 in
theorem gX4_setRate_X4_fail : GoodIn wsX4_setRate (wsV RX4 72 RX4 yX4_fail wsX4_fail) := goodIn_app (goodIn_of _ (by decide +kernel)) ggX4_setRate_X4_fail
set_option maxRecDepth 20000 in
theorem ggX4_setRate_X4_reckon : GoodIn wsX4_setRate wsX4_reckon := goodIn_r _ [15, 16, 17, 3, 18, 19, 20, 21, 22, 23, 24] (by decide +kernel) (by decide +kernel)
set_option maxRecDepth 20000 in
theorem gX4_setRate_X4_reckon : GoodIn wsX4_setRate (wsV RX4 25 RX4 yX4_reckon wsX4_reckon) := goodIn_app (goodIn_of _ (by decide +kernel)) ggX4_setRate_X4_reckon
theorem dX4_setRate_0 : decode cX4_setRate 0 = .ok (.aload_n 0, 1) := by decide +kernel
theorem dX4_setRate_1 : decode cX4_setRate 1 = .ok (.iconst 0, 1) := by decide +kernel
theorem dX4_setRate_2 : decode cX4_setRate 2 = .ok (.putfield 28, 3) := by decide +kernel
theorem dX4_setRate_5 : decode cX4_setRate 5 = .ok (.iload_n 1, 1) := by decide +kernel
theorem dX4_setRate_6 : decode cX4_setRate 6 = .ok (.iconst 0, 1) := by decide +kernel
theorem dX4_setRate_7 : decode cX4_setRate 7 = .ok (.iconst 2, 1) := by decide +kernel
theorem dX4_setRate_8 : decode cX4_setRate 8 = .ok (.invokestatic 32, 3) := by decide +kernel
theorem dX4_setRate_11 : decode cX4_setRate 11 = .ok (.ifCond .ne 9, 3) := by decide +kernel
theorem dX4_setRate_14 : decode cX4_setRate 14 = .ok (.aload_n 0, 1) := by decide +kernel
theorem dX4_setRate_15 : decode cX4_setRate 15 = .ok (.iconst 1, 1) := by decide +kernel
theorem dX4_setRate_16 : decode cX4_setRate 16 = .ok (.invokevirtual 72, 3) := by decide +kernel
theorem dX4_setRate_19 : decode cX4_setRate 19 = .ok (.ireturn, 1) := by decide +kernel
theorem dX4_setRate_20 : decode cX4_setRate 20 = .ok (.iload_n 2, 1) := by decide +kernel
theorem dX4_setRate_21 : decode cX4_setRate 21 = .ok (.iconst 0, 1) := by decide +kernel
theorem dX4_setRate_22 : decode cX4_setRate 22 = .ok (.getstatic 75, 3) := by decide +kernel
theorem dX4_setRate_25 : decode cX4_setRate 25 = .ok (.iload_n 1, 1) := by decide +kernel
theorem dX4_setRate_26 : decode cX4_setRate 26 = .ok (.iaload, 1) := by decide +kernel
theorem dX4_setRate_27 : decode cX4_setRate 27 = .ok (.invokestatic 32, 3) := by decide +kernel
theorem dX4_setRate_30 : decode cX4_setRate 30 = .ok (.ifCond .ne 9, 3) := by decide +kernel
theorem dX4_setRate_33 : decode cX4_setRate 33 = .ok (.aload_n 0, 1) := by decide +kernel
theorem dX4_setRate_34 : decode cX4_setRate 34 = .ok (.iconst 2, 1) := by decide +kernel
theorem dX4_setRate_35 : decode cX4_setRate 35 = .ok (.invokevirtual 72, 3) := by decide +kernel
theorem dX4_setRate_38 : decode cX4_setRate 38 = .ok (.ireturn, 1) := by decide +kernel
theorem dX4_setRate_39 : decode cX4_setRate 39 = .ok (.aload_n 0, 1) := by decide +kernel
theorem dX4_setRate_40 : decode cX4_setRate 40 = .ok (.getfield 7, 3) := by decide +kernel
theorem dX4_setRate_43 : decode cX4_setRate 43 = .ok (.iload_n 1, 1) := by decide +kernel
theorem dX4_setRate_44 : decode cX4_setRate 44 = .ok (.iaload, 1) := by decide +kernel
theorem dX4_setRate_45 : decode cX4_setRate 45 = .ok (.istore_n 3, 1) := by decide +kernel
theorem dX4_setRate_46 : decode cX4_setRate 46 = .ok (.aload_n 0, 1) := by decide +kernel
theorem dX4_setRate_47 : decode cX4_setRate 47 = .ok (.getfield 7, 3) := by decide +kernel
theorem dX4_setRate_50 : decode cX4_setRate 50 = .ok (.iload_n 1, 1) := by decide +kernel
theorem dX4_setRate_51 : decode cX4_setRate 51 = .ok (.iload_n 2, 1) := by decide +kernel
theorem dX4_setRate_52 : decode cX4_setRate 52 = .ok (.iastore, 1) := by decide +kernel
theorem dX4_setRate_53 : decode cX4_setRate 53 = .ok (.aload_n 0, 1) := by decide +kernel
theorem dX4_setRate_54 : decode cX4_setRate 54 = .ok (.invokevirtual 25, 3) := by decide +kernel
theorem dX4_setRate_57 : decode cX4_setRate 57 = .ok (.iload_n 3, 1) := by decide +kernel
theorem dX4_setRate_58 : decode cX4_setRate 58 = .ok (.ireturn, 1) := by decide +kernel
set_option maxRecDepth 20000 in
theorem ggX4_isBought_X4_isAge : GoodIn wsX4_isBought wsX4_isAge := goodIn_r _ [4, 5, 6, 3, 7] (by decide +kernel) (by decide +kernel)
set_option maxRecDepth 20000 in
theorem gX4_isBought_X4_isAge : GoodIn wsX4_isBought (va_wsS RX4 69 yX4_isAge wsX4_isAge) := goodIn_app (goodIn_of _ (by decide +kernel)) ggX4_isBought_X4_isAge
set_option maxRecDepth 20000 in
theorem ggX4_isBought_X4_isSum : GoodIn wsX4_isBought wsX4_isSum := goodIn_r _ [10, 5, 6, 3, 7] (by decide +kernel) (by decide +kernel)
set_option maxRecDepth 20000 in
theorem gX4_isBought_X4_isSum : GoodIn wsX4_isBought (va_wsS RX4 78 yX4_isSum wsX4_isSum) := goodIn_app (goodIn_of _ (by decide +kernel)) ggX4_isBought_X4_isSum
set_option maxRecDepth 20000 in
theorem ggX4_isBought_X4_isLate : GoodIn wsX4_isBought wsX4_isLate := goodIn_r _ [13, 5, 6, 3, 7] (by decide +kernel) (by decide +kernel)
set_option maxRecDepth 20000 in
theorem gX4_isBought_X4_isLate : GoodIn wsX4_isBought (va_wsS RX4 81 yX4_isLate wsX4_isLate) := goodIn_app (goodIn_of _ (by decide +kernel)) ggX4_isBought_X4_isLate
theorem dX4_isBought_0 : decode cX4_isBought 0 = .ok (.iload_n 0, 1) := by decide +kernel
theorem dX4_isBought_1 : decode cX4_isBought 1 = .ok (.invokestatic 69, 3) := by decide +kernel
theorem dX4_isBought_4 : decode cX4_isBought 4 = .ok (.ifCond .eq 21, 3) := by decide +kernel
theorem dX4_isBought_7 : decode cX4_isBought 7 = .ok (.iload_n 1, 1) := by decide +kernel
theorem dX4_isBought_8 : decode cX4_isBought 8 = .ok (.invokestatic 78, 3) := by decide +kernel
theorem dX4_isBought_11 : decode cX4_isBought 11 = .ok (.ifCond .eq 14, 3) := by decide +kernel
theorem dX4_isBought_14 : decode cX4_isBought 14 = .ok (.iload_n 2, 1) := by decide +kernel
theorem dX4_isBought_15 : decode cX4_isBought 15 = .ok (.invokestatic 81, 3) := by decide +kernel
theorem dX4_isBought_18 : decode cX4_isBought 18 = .ok (.ifCond .eq 7, 3) := by decide +kernel
theorem dX4_isBought_21 : decode cX4_isBought 21 = .ok (.iconst 1, 1) := by decide +kernel
theorem dX4_isBought_22 : decode cX4_isBought 22 = .ok (.goto 4, 3) := by decide +kernel
theorem dX4_isBought_25 : decode cX4_isBought 25 = .ok (.iconst 0, 1) := by decide +kernel
theorem dX4_isBought_26 : decode cX4_isBought 26 = .ok (.ireturn, 1) := by decide +kernel
set_option maxRecDepth 20000 in
theorem ggX4_buy_X4_isBought : GoodIn wsX4_buy wsX4_isBought := goodIn_r _ [12, 13, 14, 11, 15, 16, 17, 18, 19, 20, 21, 22, 23, 24] (by decide +kernel) (by decide +kernel)
set_option maxRecDepth 20000 in
theorem gX4_buy_X4_isBought : GoodIn wsX4_buy (va_wsS RX4 84 yX4_isBought wsX4_isBought) := goodIn_app (goodIn_of _ (by decide +kernel)) ggX4_buy_X4_isBought
set_option maxRecDepth 20000 in
theorem ggX4_buy_X4_fail : GoodIn wsX4_buy wsX4_fail := goodIn_r _ [28, 1, 52, 53, 54, 55, 56, 57, 58] (by decide +kernel) (by decide +kernel)
set_option maxRecDepth 20000 in
theorem gX4_buy_X4_fail : GoodIn wsX4_buy (wsV RX4 72 RX4 yX4_fail wsX4_fail) := goodIn_app (goodIn_of _ (by decide +kernel)) ggX4_buy_X4_fail
set_option maxRecDepth 20000 in
theorem ggX4_buy_X4_worthOf : GoodIn wsX4_buy wsX4_worthOf := goodIn_r _ [32, 33, 52, 53, 54, 55, 56, 57, 58] (by decide +kernel) (by decide +kernel)
set_option maxRecDepth 20000 in
theorem gX4_buy_X4_worthOf : GoodIn wsX4_buy (wsV RX4 43 RX4 yX4_worthOf wsX4_worthOf) := goodIn_app (goodIn_of _ (by decide +kernel)) ggX4_buy_X4_worthOf
set_option maxRecDepth 20000 in
theorem ggX4_buy_X4_priceOf : GoodIn wsX4_buy wsX4_priceOf := goodIn_r _ [37, 38, 39, 40, 41, 42, 29, 30, 31, 11, 32, 33, 52, 53, 54, 55, 56, 57, 58] (by decide +kernel) (by decide +kernel)
set_option maxRecDepth 20000 in
theorem gX4_buy_X4_priceOf : GoodIn wsX4_buy (wsV RX4 87 RX4 yX4_priceOf wsX4_priceOf) := goodIn_app (goodIn_of _ (by decide +kernel)) ggX4_buy_X4_priceOf
set_option maxRecDepth 20000 in
theorem ggX4_buy_X4_comeIn : GoodIn wsX4_buy wsX4_comeIn := goodIn_r _ [46, 47, 48, 49, 50, 41, 51, 52, 53, 54, 55, 56, 57, 58] (by decide +kernel) (by decide +kernel)
set_option maxRecDepth 20000 in
theorem gX4_buy_X4_comeIn : GoodIn wsX4_buy (wsV RX4 97 RX4 yX4_comeIn wsX4_comeIn) := goodIn_app (goodIn_of _ (by decide +kernel)) ggX4_buy_X4_comeIn
theorem dX4_buy_0 : decode cX4_buy 0 = .ok (.aload_n 0, 1) := by decide +kernel
theorem dX4_buy_1 : decode cX4_buy 1 = .ok (.iconst 0, 1) := by decide +kernel
theorem dX4_buy_2 : decode cX4_buy 2 = .ok (.putfield 28, 3) := by decide +kernel
theorem dX4_buy_5 : decode cX4_buy 5 = .ok (.iload_n 1, 1) := by decide +kernel
theorem dX4_buy_6 : decode cX4_buy 6 = .ok (.iload_n 2, 1) := by decide +kernel
theorem dX4_buy_7 : decode cX4_buy 7 = .ok (.iload_n 3, 1) := by decide +kernel
theorem dX4_buy_8 : decode cX4_buy 8 = .ok (.invokestatic 84, 3) := by decide +kernel
theorem dX4_buy_11 : decode cX4_buy 11 = .ok (.ifCond .ne 9, 3) := by decide +kernel
theorem dX4_buy_14 : decode cX4_buy 14 = .ok (.aload_n 0, 1) := by decide +kernel
theorem dX4_buy_15 : decode cX4_buy 15 = .ok (.iconst 1, 1) := by decide +kernel
theorem dX4_buy_16 : decode cX4_buy 16 = .ok (.invokevirtual 72, 3) := by decide +kernel
theorem dX4_buy_19 : decode cX4_buy 19 = .ok (.ireturn, 1) := by decide +kernel
theorem dX4_buy_20 : decode cX4_buy 20 = .ok (.aload_n 0, 1) := by decide +kernel
theorem dX4_buy_21 : decode cX4_buy 21 = .ok (.getfield 36, 3) := by decide +kernel
theorem dX4_buy_24 : decode cX4_buy 24 = .ok (.bipush 10, 2) := by decide +kernel
theorem dX4_buy_26 : decode cX4_buy 26 = .ok (.if_icmp .eq 12, 3) := by decide +kernel
theorem dX4_buy_29 : decode cX4_buy 29 = .ok (.aload_n 0, 1) := by decide +kernel
theorem dX4_buy_30 : decode cX4_buy 30 = .ok (.iload_n 1, 1) := by decide +kernel
theorem dX4_buy_31 : decode cX4_buy 31 = .ok (.iload_n 3, 1) := by decide +kernel
theorem dX4_buy_32 : decode cX4_buy 32 = .ok (.invokevirtual 43, 3) := by decide +kernel
theorem dX4_buy_35 : decode cX4_buy 35 = .ok (.ifCond .ne 9, 3) := by decide +kernel
theorem dX4_buy_38 : decode cX4_buy 38 = .ok (.aload_n 0, 1) := by decide +kernel
theorem dX4_buy_39 : decode cX4_buy 39 = .ok (.iconst 2, 1) := by decide +kernel
theorem dX4_buy_40 : decode cX4_buy 40 = .ok (.invokevirtual 72, 3) := by decide +kernel
theorem dX4_buy_43 : decode cX4_buy 43 = .ok (.ireturn, 1) := by decide +kernel
theorem dX4_buy_44 : decode cX4_buy 44 = .ok (.aload_n 0, 1) := by decide +kernel
theorem dX4_buy_45 : decode cX4_buy 45 = .ok (.iload_n 1, 1) := by decide +kernel
theorem dX4_buy_46 : decode cX4_buy 46 = .ok (.iload_n 2, 1) := by decide +kernel
theorem dX4_buy_47 : decode cX4_buy 47 = .ok (.iload_n 3, 1) := by decide +kernel
theorem dX4_buy_48 : decode cX4_buy 48 = .ok (.invokevirtual 87, 3) := by decide +kernel
theorem dX4_buy_51 : decode cX4_buy 51 = .ok (.istore 4, 2) := by decide +kernel
theorem dX4_buy_53 : decode cX4_buy 53 = .ok (.bipush 7, 2) := by decide +kernel
theorem dX4_buy_55 : decode cX4_buy 55 = .ok (.newarray .int, 2) := by decide +kernel
theorem dX4_buy_57 : decode cX4_buy 57 = .ok (.dup, 1) := by decide +kernel
theorem dX4_buy_58 : decode cX4_buy 58 = .ok (.iconst 0, 1) := by decide +kernel
theorem dX4_buy_59 : decode cX4_buy 59 = .ok (.iload_n 1, 1) := by decide +kernel
theorem dX4_buy_60 : decode cX4_buy 60 = .ok (.iastore, 1) := by decide +kernel
theorem dX4_buy_61 : decode cX4_buy 61 = .ok (.dup, 1) := by decide +kernel
theorem dX4_buy_62 : decode cX4_buy 62 = .ok (.iconst 1, 1) := by decide +kernel
theorem dX4_buy_63 : decode cX4_buy 63 = .ok (.iload_n 2, 1) := by decide +kernel
theorem dX4_buy_64 : decode cX4_buy 64 = .ok (.iastore, 1) := by decide +kernel
theorem dX4_buy_65 : decode cX4_buy 65 = .ok (.dup, 1) := by decide +kernel
theorem dX4_buy_66 : decode cX4_buy 66 = .ok (.iconst 2, 1) := by decide +kernel
theorem dX4_buy_67 : decode cX4_buy 67 = .ok (.iload_n 3, 1) := by decide +kernel
theorem dX4_buy_68 : decode cX4_buy 68 = .ok (.iastore, 1) := by decide +kernel
theorem dX4_buy_69 : decode cX4_buy 69 = .ok (.dup, 1) := by decide +kernel
theorem dX4_buy_70 : decode cX4_buy 70 = .ok (.iconst 3, 1) := by decide +kernel
theorem dX4_buy_71 : decode cX4_buy 71 = .ok (.iconst 0, 1) := by decide +kernel
theorem dX4_buy_72 : decode cX4_buy 72 = .ok (.iastore, 1) := by decide +kernel
theorem dX4_buy_73 : decode cX4_buy 73 = .ok (.dup, 1) := by decide +kernel
theorem dX4_buy_74 : decode cX4_buy 74 = .ok (.iconst 4, 1) := by decide +kernel
theorem dX4_buy_75 : decode cX4_buy 75 = .ok (.iconst 0, 1) := by decide +kernel
theorem dX4_buy_76 : decode cX4_buy 76 = .ok (.iastore, 1) := by decide +kernel
theorem dX4_buy_77 : decode cX4_buy 77 = .ok (.dup, 1) := by decide +kernel
theorem dX4_buy_78 : decode cX4_buy 78 = .ok (.iconst 5, 1) := by decide +kernel
theorem dX4_buy_79 : decode cX4_buy 79 = .ok (.iconst 0, 1) := by decide +kernel
theorem dX4_buy_80 : decode cX4_buy 80 = .ok (.iastore, 1) := by decide +kernel
theorem dX4_buy_81 : decode cX4_buy 81 = .ok (.dup, 1) := by decide +kernel
theorem dX4_buy_82 : decode cX4_buy 82 = .ok (.bipush 6, 2) := by decide +kernel
theorem dX4_buy_84 : decode cX4_buy 84 = .ok (.iload 4, 2) := by decide +kernel
theorem dX4_buy_86 : decode cX4_buy 86 = .ok (.iastore, 1) := by decide +kernel
theorem dX4_buy_87 : decode cX4_buy 87 = .ok (.astore 5, 2) := by decide +kernel
theorem dX4_buy_89 : decode cX4_buy 89 = .ok (.aload 5, 2) := by decide +kernel
theorem dX4_buy_91 : decode cX4_buy 91 = .ok (.iconst 0, 1) := by decide +kernel
theorem dX4_buy_92 : decode cX4_buy 92 = .ok (.aload_n 0, 1) := by decide +kernel
theorem dX4_buy_93 : decode cX4_buy 93 = .ok (.getfield 16, 3) := by decide +kernel
theorem dX4_buy_96 : decode cX4_buy 96 = .ok (.bipush 7, 2) := by decide +kernel
theorem dX4_buy_98 : decode cX4_buy 98 = .ok (.aload_n 0, 1) := by decide +kernel
theorem dX4_buy_99 : decode cX4_buy 99 = .ok (.getfield 36, 3) := by decide +kernel
theorem dX4_buy_102 : decode cX4_buy 102 = .ok (.imul, 1) := by decide +kernel
theorem dX4_buy_103 : decode cX4_buy 103 = .ok (.bipush 7, 2) := by decide +kernel
theorem dX4_buy_105 : decode cX4_buy 105 = .ok (.invokestatic 91, 3) := by decide +kernel
theorem dX4_buy_108 : decode cX4_buy 108 = .ok (.aload_n 0, 1) := by decide +kernel
theorem dX4_buy_109 : decode cX4_buy 109 = .ok (.dup, 1) := by decide +kernel
theorem dX4_buy_110 : decode cX4_buy 110 = .ok (.getfield 36, 3) := by decide +kernel
theorem dX4_buy_113 : decode cX4_buy 113 = .ok (.iconst 1, 1) := by decide +kernel
theorem dX4_buy_114 : decode cX4_buy 114 = .ok (.iadd, 1) := by decide +kernel
theorem dX4_buy_115 : decode cX4_buy 115 = .ok (.putfield 36, 3) := by decide +kernel
theorem dX4_buy_118 : decode cX4_buy 118 = .ok (.aload_n 0, 1) := by decide +kernel
theorem dX4_buy_119 : decode cX4_buy 119 = .ok (.iload 4, 2) := by decide +kernel
theorem dX4_buy_121 : decode cX4_buy 121 = .ok (.i2l, 1) := by decide +kernel
theorem dX4_buy_122 : decode cX4_buy 122 = .ok (.invokevirtual 97, 3) := by decide +kernel
theorem dX4_buy_125 : decode cX4_buy 125 = .ok (.aload_n 0, 1) := by decide +kernel
theorem dX4_buy_126 : decode cX4_buy 126 = .ok (.getfield 36, 3) := by decide +kernel
theorem dX4_buy_129 : decode cX4_buy 129 = .ok (.iconst 1, 1) := by decide +kernel
theorem dX4_buy_130 : decode cX4_buy 130 = .ok (.isub, 1) := by decide +kernel
theorem dX4_buy_131 : decode cX4_buy 131 = .ok (.ireturn, 1) := by decide +kernel
set_option maxRecDepth 20000 in
theorem ggX4_die_X4_isWidow : GoodIn wsX4_die wsX4_isWidow := goodIn_r _ [6, 7, 8, 9, 5, 10, 37, 38, 39, 40, 41, 42, 43] (by decide +kernel) (by decide +kernel)
set_option maxRecDepth 20000 in
theorem gX4_die_X4_isWidow : GoodIn wsX4_die (wsV RX4 101 RX4 yX4_isWidow wsX4_isWidow) := goodIn_app (goodIn_of _ (by decide +kernel)) ggX4_die_X4_isWidow
set_option maxRecDepth 20000 in
theorem ggX4_die_X4_fail : GoodIn wsX4_die wsX4_fail := goodIn_r _ [14, 1, 37, 38, 39, 40, 41, 42, 43] (by decide +kernel) (by decide +kernel)
set_option maxRecDepth 20000 in
theorem gX4_die_X4_fail : GoodIn wsX4_die (wsV RX4 72 RX4 yX4_fail wsX4_fail) := goodIn_app (goodIn_of _ (by decide +kernel)) ggX4_die_X4_fail
set_option maxRecDepth 20000 in
theorem ggX4_die_X4_isAlive : GoodIn wsX4_die wsX4_isAlive := goodIn_r _ [18, 19, 20, 21, 5, 22, 23, 37, 38, 39, 40, 41, 42, 43] (by decide +kernel) (by decide +kernel)
set_option maxRecDepth 20000 in
theorem gX4_die_X4_isAlive : GoodIn wsX4_die (wsV RX4 51 RX4 yX4_isAlive wsX4_isAlive) := goodIn_app (goodIn_of _ (by decide +kernel)) ggX4_die_X4_isAlive
set_option maxRecDepth 20000 in
theorem ggX4_die_X4_kept : GoodIn wsX4_die wsX4_kept := goodIn_r _ [27, 15, 16, 17, 5, 18, 19, 20, 21, 22, 23, 28, 29, 30, 31, 32, 37, 38, 39, 40, 41, 42, 43] (by decide +kernel) (by decide +kernel)
set_option maxRecDepth 20000 in
theorem gX4_die_X4_kept : GoodIn wsX4_die (wsV RX4 55 RX4 yX4_kept wsX4_kept) := goodIn_app (goodIn_of _ (by decide +kernel)) ggX4_die_X4_kept
set_option maxRecDepth 20000 in
theorem ggX4_die_X4_let : GoodIn wsX4_die wsX4_let := goodIn_r _ [36, 23, 37, 38, 39, 40, 41, 42, 43] (by decide +kernel) (by decide +kernel)
set_option maxRecDepth 20000 in
theorem gX4_die_X4_let : GoodIn wsX4_die (wsV RX4 65 RX4 yX4_let wsX4_let) := goodIn_app (goodIn_of _ (by decide +kernel)) ggX4_die_X4_let
theorem dX4_die_0 : decode cX4_die 0 = .ok (.aload_n 0, 1) := by decide +kernel
theorem dX4_die_1 : decode cX4_die 1 = .ok (.iconst 0, 1) := by decide +kernel
theorem dX4_die_2 : decode cX4_die 2 = .ok (.putfield 28, 3) := by decide +kernel
theorem dX4_die_5 : decode cX4_die 5 = .ok (.aload_n 0, 1) := by decide +kernel
theorem dX4_die_6 : decode cX4_die 6 = .ok (.iload_n 1, 1) := by decide +kernel
theorem dX4_die_7 : decode cX4_die 7 = .ok (.invokevirtual 101, 3) := by decide +kernel
theorem dX4_die_10 : decode cX4_die 10 = .ok (.ifCond .ne 9, 3) := by decide +kernel
theorem dX4_die_13 : decode cX4_die 13 = .ok (.aload_n 0, 1) := by decide +kernel
theorem dX4_die_14 : decode cX4_die 14 = .ok (.iconst 1, 1) := by decide +kernel
theorem dX4_die_15 : decode cX4_die 15 = .ok (.invokevirtual 72, 3) := by decide +kernel
theorem dX4_die_18 : decode cX4_die 18 = .ok (.ireturn, 1) := by decide +kernel
theorem dX4_die_19 : decode cX4_die 19 = .ok (.aload_n 0, 1) := by decide +kernel
theorem dX4_die_20 : decode cX4_die 20 = .ok (.iload_n 1, 1) := by decide +kernel
theorem dX4_die_21 : decode cX4_die 21 = .ok (.invokevirtual 51, 3) := by decide +kernel
theorem dX4_die_24 : decode cX4_die 24 = .ok (.ifCond .ne 9, 3) := by decide +kernel
theorem dX4_die_27 : decode cX4_die 27 = .ok (.aload_n 0, 1) := by decide +kernel
theorem dX4_die_28 : decode cX4_die 28 = .ok (.iconst 2, 1) := by decide +kernel
theorem dX4_die_29 : decode cX4_die 29 = .ok (.invokevirtual 72, 3) := by decide +kernel
theorem dX4_die_32 : decode cX4_die 32 = .ok (.ireturn, 1) := by decide +kernel
theorem dX4_die_33 : decode cX4_die 33 = .ok (.aload_n 0, 1) := by decide +kernel
theorem dX4_die_34 : decode cX4_die 34 = .ok (.iload_n 1, 1) := by decide +kernel
theorem dX4_die_35 : decode cX4_die 35 = .ok (.invokevirtual 55, 3) := by decide +kernel
theorem dX4_die_38 : decode cX4_die 38 = .ok (.istore_n 2, 1) := by decide +kernel
theorem dX4_die_39 : decode cX4_die 39 = .ok (.aload_n 0, 1) := by decide +kernel
theorem dX4_die_40 : decode cX4_die 40 = .ok (.iload_n 1, 1) := by decide +kernel
theorem dX4_die_41 : decode cX4_die 41 = .ok (.iconst 4, 1) := by decide +kernel
theorem dX4_die_42 : decode cX4_die 42 = .ok (.iconst 1, 1) := by decide +kernel
theorem dX4_die_43 : decode cX4_die 43 = .ok (.invokevirtual 65, 3) := by decide +kernel
theorem dX4_die_46 : decode cX4_die 46 = .ok (.iload_n 2, 1) := by decide +kernel
theorem dX4_die_47 : decode cX4_die 47 = .ok (.ireturn, 1) := by decide +kernel
set_option maxRecDepth 20000 in
theorem ggX4_giveUp_X4_isWidow : GoodIn wsX4_giveUp wsX4_isWidow := goodIn_r _ [6, 7, 8, 9, 5, 10, 47, 48, 49, 50, 51, 52, 53] (by decide +kernel) (by decide +kernel)
set_option maxRecDepth 20000 in
theorem gX4_giveUp_X4_isWidow : GoodIn wsX4_giveUp (wsV RX4 101 RX4 yX4_isWidow wsX4_isWidow) := goodIn_app (goodIn_of _ (by decide +kernel)) ggX4_giveUp_X4_isWidow
set_option maxRecDepth 20000 in
theorem ggX4_giveUp_X4_fail : GoodIn wsX4_giveUp wsX4_fail := goodIn_r _ [14, 1, 47, 48, 49, 50, 51, 52, 53] (by decide +kernel) (by decide +kernel)
set_option maxRecDepth 20000 in
theorem gX4_giveUp_X4_fail : GoodIn wsX4_giveUp (wsV RX4 72 RX4 yX4_fail wsX4_fail) := goodIn_app (goodIn_of _ (by decide +kernel)) ggX4_giveUp_X4_fail
set_option maxRecDepth 20000 in
theorem ggX4_giveUp_X4_isAlive : GoodIn wsX4_giveUp wsX4_isAlive := goodIn_r _ [18, 19, 20, 21, 5, 22, 23, 47, 48, 49, 50, 51, 52, 53] (by decide +kernel) (by decide +kernel)
set_option maxRecDepth 20000 in
theorem gX4_giveUp_X4_isAlive : GoodIn wsX4_giveUp (wsV RX4 51 RX4 yX4_isAlive wsX4_isAlive) := goodIn_app (goodIn_of _ (by decide +kernel)) ggX4_giveUp_X4_isAlive
set_option maxRecDepth 20000 in
theorem ggX4_giveUp_X4_wi : GoodIn wsX4_giveUp wsX4_wi := goodIn_r _ [22, 23, 47, 48, 49, 50, 51, 52, 53] (by decide +kernel) (by decide +kernel)
set_option maxRecDepth 20000 in
theorem gX4_giveUp_X4_wi : GoodIn wsX4_giveUp (wsV RX4 39 RX4 yX4_wi wsX4_wi) := goodIn_app (goodIn_of _ (by decide +kernel)) ggX4_giveUp_X4_wi
set_option maxRecDepth 20000 in
theorem ggX4_giveUp_X4_back : GoodIn wsX4_giveUp wsX4_back := goodIn_r _ [27, 28, 15, 16, 17, 5, 18, 19, 20, 21, 22, 23, 29, 30, 31, 32, 33, 34, 35, 36, 37, 47, 48, 49, 50, 51, 52, 53] (by decide +kernel) (by decide +kernel)
set_option maxRecDepth 20000 in
theorem gX4_giveUp_X4_back : GoodIn wsX4_giveUp (wsV RX4 104 RX4 yX4_back wsX4_back) := goodIn_app (goodIn_of _ (by decide +kernel)) ggX4_giveUp_X4_back
set_option maxRecDepth 20000 in
theorem ggX4_giveUp_X4_payOut : GoodIn wsX4_giveUp wsX4_payOut := goodIn_r _ [41, 42, 19, 20, 21, 5, 22, 23, 43, 44, 45, 46, 47, 48, 49, 50, 51, 52, 53] (by decide +kernel) (by decide +kernel)
set_option maxRecDepth 20000 in
theorem gX4_giveUp_X4_payOut : GoodIn wsX4_giveUp (wsV RX4 107 RX4 yX4_payOut wsX4_payOut) := goodIn_app (goodIn_of _ (by decide +kernel)) ggX4_giveUp_X4_payOut
set_option maxRecDepth 20000 in
theorem ggX4_giveUp_X4_let : GoodIn wsX4_giveUp wsX4_let := goodIn_r _ [46, 23, 47, 48, 49, 50, 51, 52, 53] (by decide +kernel) (by decide +kernel)
set_option maxRecDepth 20000 in
theorem gX4_giveUp_X4_let : GoodIn wsX4_giveUp (wsV RX4 65 RX4 yX4_let wsX4_let) := goodIn_app (goodIn_of _ (by decide +kernel)) ggX4_giveUp_X4_let
theorem dX4_giveUp_0 : decode cX4_giveUp 0 = .ok (.aload_n 0, 1) := by decide +kernel
theorem dX4_giveUp_1 : decode cX4_giveUp 1 = .ok (.iconst 0, 1) := by decide +kernel
theorem dX4_giveUp_2 : decode cX4_giveUp 2 = .ok (.putfield 28, 3) := by decide +kernel
theorem dX4_giveUp_5 : decode cX4_giveUp 5 = .ok (.aload_n 0, 1) := by decide +kernel
theorem dX4_giveUp_6 : decode cX4_giveUp 6 = .ok (.iload_n 1, 1) := by decide +kernel
theorem dX4_giveUp_7 : decode cX4_giveUp 7 = .ok (.invokevirtual 101, 3) := by decide +kernel
theorem dX4_giveUp_10 : decode cX4_giveUp 10 = .ok (.ifCond .ne 9, 3) := by decide +kernel
theorem dX4_giveUp_13 : decode cX4_giveUp 13 = .ok (.aload_n 0, 1) := by decide +kernel
theorem dX4_giveUp_14 : decode cX4_giveUp 14 = .ok (.iconst 1, 1) := by decide +kernel
theorem dX4_giveUp_15 : decode cX4_giveUp 15 = .ok (.invokevirtual 72, 3) := by decide +kernel
theorem dX4_giveUp_18 : decode cX4_giveUp 18 = .ok (.ireturn, 1) := by decide +kernel
theorem dX4_giveUp_19 : decode cX4_giveUp 19 = .ok (.aload_n 0, 1) := by decide +kernel
theorem dX4_giveUp_20 : decode cX4_giveUp 20 = .ok (.iload_n 1, 1) := by decide +kernel
theorem dX4_giveUp_21 : decode cX4_giveUp 21 = .ok (.invokevirtual 51, 3) := by decide +kernel
theorem dX4_giveUp_24 : decode cX4_giveUp 24 = .ok (.ifCond .eq 13, 3) := by decide +kernel
theorem dX4_giveUp_27 : decode cX4_giveUp 27 = .ok (.aload_n 0, 1) := by decide +kernel
theorem dX4_giveUp_28 : decode cX4_giveUp 28 = .ok (.iload_n 1, 1) := by decide +kernel
theorem dX4_giveUp_29 : decode cX4_giveUp 29 = .ok (.iconst 3, 1) := by decide +kernel
theorem dX4_giveUp_30 : decode cX4_giveUp 30 = .ok (.invokevirtual 39, 3) := by decide +kernel
theorem dX4_giveUp_33 : decode cX4_giveUp 33 = .ok (.iconst 2, 1) := by decide +kernel
theorem dX4_giveUp_34 : decode cX4_giveUp 34 = .ok (.if_icmp .ge 9, 3) := by decide +kernel
theorem dX4_giveUp_37 : decode cX4_giveUp 37 = .ok (.aload_n 0, 1) := by decide +kernel
theorem dX4_giveUp_38 : decode cX4_giveUp 38 = .ok (.iconst 2, 1) := by decide +kernel
theorem dX4_giveUp_39 : decode cX4_giveUp 39 = .ok (.invokevirtual 72, 3) := by decide +kernel
theorem dX4_giveUp_42 : decode cX4_giveUp 42 = .ok (.ireturn, 1) := by decide +kernel
theorem dX4_giveUp_43 : decode cX4_giveUp 43 = .ok (.aload_n 0, 1) := by decide +kernel
theorem dX4_giveUp_44 : decode cX4_giveUp 44 = .ok (.iload_n 1, 1) := by decide +kernel
end
section
theorem dX4_giveUp_45 : decode cX4_giveUp 45 = .ok (.invokevirtual 104, 3) := by decide +kernel
theorem dX4_giveUp_48 : decode cX4_giveUp 48 = .ok (.istore_n 2, 1) := by decide +kernel
theorem dX4_giveUp_49 : decode cX4_giveUp 49 = .ok (.aload_n 0, 1) := by decide +kernel
theorem dX4_giveUp_50 : decode cX4_giveUp 50 = .ok (.iload_n 1, 1) := by decide +kernel
theorem dX4_giveUp_51 : decode cX4_giveUp 51 = .ok (.iload_n 2, 1) := by decide +kernel
theorem dX4_giveUp_52 : decode cX4_giveUp 52 = .ok (.invokevirtual 107, 3) := by decide +kernel
theorem dX4_giveUp_55 : decode cX4_giveUp 55 = .ok (.aload_n 0, 1) := by decide +kernel
theorem dX4_giveUp_56 : decode cX4_giveUp 56 = .ok (.iload_n 1, 1) := by decide +kernel
theorem dX4_giveUp_57 : decode cX4_giveUp 57 = .ok (.iconst 4, 1) := by decide +kernel
theorem dX4_giveUp_58 : decode cX4_giveUp 58 = .ok (.iconst 2, 1) := by decide +kernel
theorem dX4_giveUp_59 : decode cX4_giveUp 59 = .ok (.invokevirtual 65, 3) := by decide +kernel
theorem dX4_giveUp_62 : decode cX4_giveUp 62 = .ok (.iload_n 2, 1) := by decide +kernel
theorem dX4_giveUp_63 : decode cX4_giveUp 63 = .ok (.ireturn, 1) := by decide +kernel
set_option maxRecDepth 20000 in
theorem ggX4_put_X4_isIn : GoodIn wsX4_put wsX4_isIn := goodIn_r _ [8] (by decide +kernel) (by decide +kernel)
set_option maxRecDepth 20000 in
theorem gX4_put_X4_isIn : GoodIn wsX4_put (va_wsS RX4 32 yX4_isIn wsX4_isIn) := goodIn_app (goodIn_of _ (by decide +kernel)) ggX4_put_X4_isIn
set_option maxRecDepth 20000 in
theorem ggX4_put_X4_fail : GoodIn wsX4_put wsX4_fail := goodIn_r _ [12, 1, 22, 23, 24, 25, 26, 27, 28] (by decide +kernel) (by decide +kernel)
set_option maxRecDepth 20000 in
theorem gX4_put_X4_fail : GoodIn wsX4_put (wsV RX4 72 RX4 yX4_fail wsX4_fail) := goodIn_app (goodIn_of _ (by decide +kernel)) ggX4_put_X4_fail
set_option maxRecDepth 20000 in
theorem ggX4_put_X4_comeIn : GoodIn wsX4_put wsX4_comeIn := goodIn_r _ [16, 4, 17, 18, 19, 20, 21, 22, 23, 24, 25, 26, 27, 28] (by decide +kernel) (by decide +kernel)
set_option maxRecDepth 20000 in
theorem gX4_put_X4_comeIn : GoodIn wsX4_put (wsV RX4 97 RX4 yX4_comeIn wsX4_comeIn) := goodIn_app (goodIn_of _ (by decide +kernel)) ggX4_put_X4_comeIn
theorem dX4_put_0 : decode cX4_put 0 = .ok (.aload_n 0, 1) := by decide +kernel
theorem dX4_put_1 : decode cX4_put 1 = .ok (.iconst 0, 1) := by decide +kernel
theorem dX4_put_2 : decode cX4_put 2 = .ok (.putfield 28, 3) := by decide +kernel
theorem dX4_put_5 : decode cX4_put 5 = .ok (.iload_n 1, 1) := by decide +kernel
theorem dX4_put_6 : decode cX4_put 6 = .ok (.ldc 111, 2) := by decide +kernel
theorem dX4_put_8 : decode cX4_put 8 = .ok (.ldc 112, 2) := by decide +kernel
theorem dX4_put_10 : decode cX4_put 10 = .ok (.invokestatic 32, 3) := by decide +kernel
theorem dX4_put_13 : decode cX4_put 13 = .ok (.ifCond .ne 9, 3) := by decide +kernel
theorem dX4_put_16 : decode cX4_put 16 = .ok (.aload_n 0, 1) := by decide +kernel
theorem dX4_put_17 : decode cX4_put 17 = .ok (.iconst 1, 1) := by decide +kernel
theorem dX4_put_18 : decode cX4_put 18 = .ok (.invokevirtual 72, 3) := by decide +kernel
theorem dX4_put_21 : decode cX4_put 21 = .ok (.ireturn, 1) := by decide +kernel
theorem dX4_put_22 : decode cX4_put 22 = .ok (.aload_n 0, 1) := by decide +kernel
theorem dX4_put_23 : decode cX4_put 23 = .ok (.iload_n 1, 1) := by decide +kernel
theorem dX4_put_24 : decode cX4_put 24 = .ok (.i2l, 1) := by decide +kernel
theorem dX4_put_25 : decode cX4_put 25 = .ok (.invokevirtual 97, 3) := by decide +kernel
theorem dX4_put_28 : decode cX4_put 28 = .ok (.aload_n 0, 1) := by decide +kernel
theorem dX4_put_29 : decode cX4_put 29 = .ok (.getfield 19, 3) := by decide +kernel
theorem dX4_put_32 : decode cX4_put 32 = .ok (.iconst 1, 1) := by decide +kernel
theorem dX4_put_33 : decode cX4_put 33 = .ok (.iaload, 1) := by decide +kernel
theorem dX4_put_34 : decode cX4_put 34 = .ok (.ireturn, 1) := by decide +kernel
set_option maxRecDepth 20000 in
theorem ggX4_worth_X4_isAge : GoodIn wsX4_worth wsX4_isAge := goodIn_r _ [5, 6, 7, 4, 8] (by decide +kernel) (by decide +kernel)
set_option maxRecDepth 20000 in
theorem gX4_worth_X4_isAge : GoodIn wsX4_worth (va_wsS RX4 69 yX4_isAge wsX4_isAge) := goodIn_app (goodIn_of _ (by decide +kernel)) ggX4_worth_X4_isAge
set_option maxRecDepth 20000 in
theorem ggX4_worth_X4_isLate : GoodIn wsX4_worth wsX4_isLate := goodIn_r _ [11, 6, 7, 4, 8] (by decide +kernel) (by decide +kernel)
set_option maxRecDepth 20000 in
theorem gX4_worth_X4_isLate : GoodIn wsX4_worth (va_wsS RX4 81 yX4_isLate wsX4_isLate) := goodIn_app (goodIn_of _ (by decide +kernel)) ggX4_worth_X4_isLate
set_option maxRecDepth 20000 in
theorem ggX4_worth_X4_worthOf : GoodIn wsX4_worth wsX4_worthOf := goodIn_r _ [15, 16, 21, 22, 23, 24, 25, 26, 27] (by decide +kernel) (by decide +kernel)
set_option maxRecDepth 20000 in
theorem gX4_worth_X4_worthOf : GoodIn wsX4_worth (wsV RX4 43 RX4 yX4_worthOf wsX4_worthOf) := goodIn_app (goodIn_of _ (by decide +kernel)) ggX4_worth_X4_worthOf
set_option maxRecDepth 20000 in
theorem ggX4_worth_X4_fail : GoodIn wsX4_worth wsX4_fail := goodIn_r _ [20, 1, 21, 22, 23, 24, 25, 26, 27] (by decide +kernel) (by decide +kernel)
set_option maxRecDepth 20000 in
theorem gX4_worth_X4_fail : GoodIn wsX4_worth (wsV RX4 72 RX4 yX4_fail wsX4_fail) := goodIn_app (goodIn_of _ (by decide +kernel)) ggX4_worth_X4_fail
theorem dX4_worth_0 : decode cX4_worth 0 = .ok (.aload_n 0, 1) := by decide +kernel
theorem dX4_worth_1 : decode cX4_worth 1 = .ok (.iconst 0, 1) := by decide +kernel
theorem dX4_worth_2 : decode cX4_worth 2 = .ok (.putfield 28, 3) := by decide +kernel
theorem dX4_worth_5 : decode cX4_worth 5 = .ok (.iload_n 1, 1) := by decide +kernel
theorem dX4_worth_6 : decode cX4_worth 6 = .ok (.invokestatic 69, 3) := by decide +kernel
theorem dX4_worth_9 : decode cX4_worth 9 = .ok (.ifCond .eq 19, 3) := by decide +kernel
theorem dX4_worth_12 : decode cX4_worth 12 = .ok (.iload_n 2, 1) := by decide +kernel
theorem dX4_worth_13 : decode cX4_worth 13 = .ok (.invokestatic 81, 3) := by decide +kernel
theorem dX4_worth_16 : decode cX4_worth 16 = .ok (.ifCond .eq 12, 3) := by decide +kernel
theorem dX4_worth_19 : decode cX4_worth 19 = .ok (.aload_n 0, 1) := by decide +kernel
theorem dX4_worth_20 : decode cX4_worth 20 = .ok (.iload_n 1, 1) := by decide +kernel
theorem dX4_worth_21 : decode cX4_worth 21 = .ok (.iload_n 2, 1) := by decide +kernel
theorem dX4_worth_22 : decode cX4_worth 22 = .ok (.invokevirtual 43, 3) := by decide +kernel
theorem dX4_worth_25 : decode cX4_worth 25 = .ok (.goto 8, 3) := by decide +kernel
theorem dX4_worth_28 : decode cX4_worth 28 = .ok (.aload_n 0, 1) := by decide +kernel
theorem dX4_worth_29 : decode cX4_worth 29 = .ok (.iconst 1, 1) := by decide +kernel
theorem dX4_worth_30 : decode cX4_worth 30 = .ok (.invokevirtual 72, 3) := by decide +kernel
theorem dX4_worth_33 : decode cX4_worth 33 = .ok (.ireturn, 1) := by decide +kernel
set_option maxRecDepth 20000 in
theorem ggX4_price_X4_isBought : GoodIn wsX4_price wsX4_isBought := goodIn_r _ [5, 6, 7, 4, 8, 9, 10, 11, 12, 13, 14, 15, 16, 17] (by decide +kernel) (by decide +kernel)
set_option maxRecDepth 20000 in
theorem gX4_price_X4_isBought : GoodIn wsX4_price (va_wsS RX4 84 yX4_isBought wsX4_isBought) := goodIn_app (goodIn_of _ (by decide +kernel)) ggX4_price_X4_isBought
set_option maxRecDepth 20000 in
theorem ggX4_price_X4_priceOf : GoodIn wsX4_price wsX4_priceOf := goodIn_r _ [21, 22, 23, 24, 25, 26, 27, 28, 29, 4, 30, 31, 36, 37, 38, 39, 40, 41, 42] (by decide +kernel) (by decide +kernel)
set_option maxRecDepth 20000 in
theorem gX4_price_X4_priceOf : GoodIn wsX4_price (wsV RX4 87 RX4 yX4_priceOf wsX4_priceOf) := goodIn_app (goodIn_of _ (by decide +kernel)) ggX4_price_X4_priceOf
set_option maxRecDepth 20000 in
theorem ggX4_price_X4_fail : GoodIn wsX4_price wsX4_fail := goodIn_r _ [35, 1, 36, 37, 38, 39, 40, 41, 42] (by decide +kernel) (by decide +kernel)
set_option maxRecDepth 20000 in
theorem gX4_price_X4_fail : GoodIn wsX4_price (wsV RX4 72 RX4 yX4_fail wsX4_fail) := goodIn_app (goodIn_of _ (by decide +kernel)) ggX4_price_X4_fail
theorem dX4_price_0 : decode cX4_price 0 = .ok (.aload_n 0, 1) := by decide +kernel
theorem dX4_price_1 : decode cX4_price 1 = .ok (.iconst 0, 1) := by decide +kernel
theorem dX4_price_2 : decode cX4_price 2 = .ok (.putfield 28, 3) := by decide +kernel
theorem dX4_price_5 : decode cX4_price 5 = .ok (.iload_n 1, 1) := by decide +kernel
theorem dX4_price_6 : decode cX4_price 6 = .ok (.iload_n 2, 1) := by decide +kernel
theorem dX4_price_7 : decode cX4_price 7 = .ok (.iload_n 3, 1) := by decide +kernel
theorem dX4_price_8 : decode cX4_price 8 = .ok (.invokestatic 84, 3) := by decide +kernel
theorem dX4_price_11 : decode cX4_price 11 = .ok (.ifCond .eq 13, 3) := by decide +kernel
theorem dX4_price_14 : decode cX4_price 14 = .ok (.aload_n 0, 1) := by decide +kernel
theorem dX4_price_15 : decode cX4_price 15 = .ok (.iload_n 1, 1) := by decide +kernel
theorem dX4_price_16 : decode cX4_price 16 = .ok (.iload_n 2, 1) := by decide +kernel
theorem dX4_price_17 : decode cX4_price 17 = .ok (.iload_n 3, 1) := by decide +kernel
theorem dX4_price_18 : decode cX4_price 18 = .ok (.invokevirtual 87, 3) := by decide +kernel
theorem dX4_price_21 : decode cX4_price 21 = .ok (.goto 8, 3) := by decide +kernel
theorem dX4_price_24 : decode cX4_price 24 = .ok (.aload_n 0, 1) := by decide +kernel
theorem dX4_price_25 : decode cX4_price 25 = .ok (.iconst 1, 1) := by decide +kernel
theorem dX4_price_26 : decode cX4_price 26 = .ok (.invokevirtual 72, 3) := by decide +kernel
theorem dX4_price_29 : decode cX4_price 29 = .ok (.ireturn, 1) := by decide +kernel
set_option maxRecDepth 20000 in
theorem ggX4_widowTold_X4_kept : GoodIn wsX4_widowTold wsX4_kept := goodIn_r _ [5, 6, 7, 8, 4, 9, 10, 11, 12, 13, 14, 15, 16, 17, 18, 19, 25, 26, 27, 28, 29, 30, 31] (by decide +kernel) (by decide +kernel)
set_option maxRecDepth 20000 in
theorem gX4_widowTold_X4_kept : GoodIn wsX4_widowTold (wsV RX4 55 RX4 yX4_kept wsX4_kept) := goodIn_app (goodIn_of _ (by decide +kernel)) ggX4_widowTold_X4_kept
set_option maxRecDepth 20000 in
theorem ggX4_widowTold_X4_wi : GoodIn wsX4_widowTold wsX4_wi := goodIn_r _ [13, 14, 25, 26, 27, 28, 29, 30, 31] (by decide +kernel) (by decide +kernel)
set_option maxRecDepth 20000 in
theorem gX4_widowTold_X4_wi : GoodIn wsX4_widowTold (wsV RX4 39 RX4 yX4_wi wsX4_wi) := goodIn_app (goodIn_of _ (by decide +kernel)) ggX4_widowTold_X4_wi
set_option maxRecDepth 20000 in
theorem ggX4_widowTold_X4_back : GoodIn wsX4_widowTold wsX4_back := goodIn_r _ [23, 24, 6, 7, 8, 4, 9, 10, 11, 12, 13, 14, 1, 2, 3, 5, 15, 16, 17, 18, 19, 25, 26, 27, 28, 29, 30, 31] (by decide +kernel) (by decide +kernel)
set_option maxRecDepth 20000 in
theorem gX4_widowTold_X4_back : GoodIn wsX4_widowTold (wsV RX4 104 RX4 yX4_back wsX4_back) := goodIn_app (goodIn_of _ (by decide +kernel)) ggX4_widowTold_X4_back
theorem dX4_widowTold_0 : decode cX4_widowTold 0 = .ok (.iload_n 2, 1) := by decide +kernel
theorem dX4_widowTold_1 : decode cX4_widowTold 1 = .ok (.tableswitch 58 5 8 #[31, 37, 44, 52], 31) := by decide +kernel
theorem dX4_widowTold_32 : decode cX4_widowTold 32 = .ok (.aload_n 0, 1) := by decide +kernel
theorem dX4_widowTold_33 : decode cX4_widowTold 33 = .ok (.iload_n 1, 1) := by decide +kernel
theorem dX4_widowTold_34 : decode cX4_widowTold 34 = .ok (.invokevirtual 55, 3) := by decide +kernel
theorem dX4_widowTold_37 : decode cX4_widowTold 37 = .ok (.ireturn, 1) := by decide +kernel
theorem dX4_widowTold_38 : decode cX4_widowTold 38 = .ok (.aload_n 0, 1) := by decide +kernel
theorem dX4_widowTold_39 : decode cX4_widowTold 39 = .ok (.iload_n 1, 1) := by decide +kernel
theorem dX4_widowTold_40 : decode cX4_widowTold 40 = .ok (.iconst 5, 1) := by decide +kernel
theorem dX4_widowTold_41 : decode cX4_widowTold 41 = .ok (.invokevirtual 39, 3) := by decide +kernel
theorem dX4_widowTold_44 : decode cX4_widowTold 44 = .ok (.ireturn, 1) := by decide +kernel
theorem dX4_widowTold_45 : decode cX4_widowTold 45 = .ok (.aload_n 0, 1) := by decide +kernel
theorem dX4_widowTold_46 : decode cX4_widowTold 46 = .ok (.iload_n 1, 1) := by decide +kernel
theorem dX4_widowTold_47 : decode cX4_widowTold 47 = .ok (.bipush 6, 2) := by decide +kernel
theorem dX4_widowTold_49 : decode cX4_widowTold 49 = .ok (.invokevirtual 39, 3) := by decide +kernel
theorem dX4_widowTold_52 : decode cX4_widowTold 52 = .ok (.ireturn, 1) := by decide +kernel
theorem dX4_widowTold_53 : decode cX4_widowTold 53 = .ok (.aload_n 0, 1) := by decide +kernel
theorem dX4_widowTold_54 : decode cX4_widowTold 54 = .ok (.iload_n 1, 1) := by decide +kernel
theorem dX4_widowTold_55 : decode cX4_widowTold 55 = .ok (.invokevirtual 104, 3) := by decide +kernel
theorem dX4_widowTold_58 : decode cX4_widowTold 58 = .ok (.ireturn, 1) := by decide +kernel
theorem dX4_widowTold_59 : decode cX4_widowTold 59 = .ok (.aload_n 0, 1) := by decide +kernel
theorem dX4_widowTold_60 : decode cX4_widowTold 60 = .ok (.iload_n 1, 1) := by decide +kernel
theorem dX4_widowTold_61 : decode cX4_widowTold 61 = .ok (.iload_n 2, 1) := by decide +kernel
theorem dX4_widowTold_62 : decode cX4_widowTold 62 = .ok (.invokevirtual 39, 3) := by decide +kernel
theorem dX4_widowTold_65 : decode cX4_widowTold 65 = .ok (.ireturn, 1) := by decide +kernel
set_option maxRecDepth 20000 in
theorem ggX4_told_X4_isWidow : GoodIn wsX4_told wsX4_isWidow := goodIn_r _ [6, 7, 8, 9, 5, 10, 42, 43, 44, 45, 46, 47, 48] (by decide +kernel) (by decide +kernel)
set_option maxRecDepth 20000 in
theorem gX4_told_X4_isWidow : GoodIn wsX4_told (wsV RX4 101 RX4 yX4_isWidow wsX4_isWidow) := goodIn_app (goodIn_of _ (by decide +kernel)) ggX4_told_X4_isWidow
set_option maxRecDepth 20000 in
theorem ggX4_told_X4_isIn : GoodIn wsX4_told wsX4_isIn := goodIn_r _ [10] (by decide +kernel) (by decide +kernel)
set_option maxRecDepth 20000 in
theorem gX4_told_X4_isIn : GoodIn wsX4_told (va_wsS RX4 32 yX4_isIn wsX4_isIn) := goodIn_app (goodIn_of _ (by decide +kernel)) ggX4_told_X4_isIn
set_option maxRecDepth 20000 in
theorem ggX4_told_X4_widowTold : GoodIn wsX4_told wsX4_widowTold := goodIn_r _ [14, 15, 16, 17, 5, 18, 19, 20, 21, 22, 23, 24, 25, 26, 27, 28, 29, 30, 31, 32, 33, 34, 35, 36, 37, 42, 43, 44, 45, 46, 47, 48] (by decide +kernel) (by decide +kernel)
set_option maxRecDepth 20000 in
theorem gX4_told_X4_widowTold : GoodIn wsX4_told (wsV RX4 113 RX4 yX4_widowTold wsX4_widowTold) := goodIn_app (goodIn_of _ (by decide +kernel)) ggX4_told_X4_widowTold
set_option maxRecDepth 20000 in
theorem ggX4_told_X4_fail : GoodIn wsX4_told wsX4_fail := goodIn_r _ [41, 1, 42, 43, 44, 45, 46, 47, 48] (by decide +kernel) (by decide +kernel)
set_option maxRecDepth 20000 in
theorem gX4_told_X4_fail : GoodIn wsX4_told (wsV RX4 72 RX4 yX4_fail wsX4_fail) := goodIn_app (goodIn_of _ (by decide +kernel)) ggX4_told_X4_fail
theorem dX4_told_0 : decode cX4_told 0 = .ok (.aload_n 0, 1) := by decide +kernel
theorem dX4_told_1 : decode cX4_told 1 = .ok (.iconst 0, 1) := by decide +kernel
theorem dX4_told_2 : decode cX4_told 2 = .ok (.putfield 28, 3) := by decide +kernel
theorem dX4_told_5 : decode cX4_told 5 = .ok (.aload_n 0, 1) := by decide +kernel
theorem dX4_told_6 : decode cX4_told 6 = .ok (.iload_n 1, 1) := by decide +kernel
theorem dX4_told_7 : decode cX4_told 7 = .ok (.invokevirtual 101, 3) := by decide +kernel
theorem dX4_told_10 : decode cX4_told 10 = .ok (.ifCond .eq 22, 3) := by decide +kernel
theorem dX4_told_13 : decode cX4_told 13 = .ok (.iload_n 2, 1) := by decide +kernel
theorem dX4_told_14 : decode cX4_told 14 = .ok (.iconst 0, 1) := by decide +kernel
theorem dX4_told_15 : decode cX4_told 15 = .ok (.bipush 8, 2) := by decide +kernel
theorem dX4_told_17 : decode cX4_told 17 = .ok (.invokestatic 32, 3) := by decide +kernel
theorem dX4_told_20 : decode cX4_told 20 = .ok (.ifCond .eq 12, 3) := by decide +kernel
theorem dX4_told_23 : decode cX4_told 23 = .ok (.aload_n 0, 1) := by decide +kernel
theorem dX4_told_24 : decode cX4_told 24 = .ok (.iload_n 1, 1) := by decide +kernel
theorem dX4_told_25 : decode cX4_told 25 = .ok (.iload_n 2, 1) := by decide +kernel
theorem dX4_told_26 : decode cX4_told 26 = .ok (.invokevirtual 113, 3) := by decide +kernel
theorem dX4_told_29 : decode cX4_told 29 = .ok (.goto 8, 3) := by decide +kernel
theorem dX4_told_32 : decode cX4_told 32 = .ok (.aload_n 0, 1) := by decide +kernel
theorem dX4_told_33 : decode cX4_told 33 = .ok (.iconst 1, 1) := by decide +kernel
theorem dX4_told_34 : decode cX4_told 34 = .ok (.invokevirtual 72, 3) := by decide +kernel
theorem dX4_told_37 : decode cX4_told 37 = .ok (.ireturn, 1) := by decide +kernel
set_option maxRecDepth 20000 in
theorem ggX4_counted_X4_isAlive : GoodIn wsX4_counted wsX4_isAlive := goodIn_r _ [7, 8, 9, 10, 6, 11, 12, 26, 27, 28, 29, 30, 31, 32] (by decide +kernel) (by decide +kernel)
set_option maxRecDepth 20000 in
theorem gX4_counted_X4_isAlive : GoodIn wsX4_counted (wsV RX4 51 RX4 yX4_isAlive wsX4_isAlive) := goodIn_app (goodIn_of _ (by decide +kernel)) ggX4_counted_X4_isAlive
set_option maxRecDepth 20000 in
theorem ggX4_counted_X4_keptForAll : GoodIn wsX4_counted wsX4_keptForAll := goodIn_r _ [16, 2, 17, 18, 19, 6, 20, 3, 4, 5, 7, 8, 9, 10, 11, 12, 21, 22, 23, 24, 25, 26, 27, 28, 29, 30, 31, 32] (by decide +kernel) (by decide +kernel)
set_option maxRecDepth 20000 in
theorem gX4_counted_X4_keptForAll : GoodIn wsX4_counted (wsV RX4 116 RX4 yX4_keptForAll wsX4_keptForAll) := goodIn_app (goodIn_of _ (by decide +kernel)) ggX4_counted_X4_keptForAll
set_option maxRecDepth 20000 in
theorem ggX4_counted_X4_wi : GoodIn wsX4_counted wsX4_wi := goodIn_r _ [11, 12, 26, 27, 28, 29, 30, 31, 32] (by decide +kernel) (by decide +kernel)
set_option maxRecDepth 20000 in
theorem gX4_counted_X4_wi : GoodIn wsX4_counted (wsV RX4 39 RX4 yX4_wi wsX4_wi) := goodIn_app (goodIn_of _ (by decide +kernel)) ggX4_counted_X4_wi
theorem dX4_counted_0 : decode cX4_counted 0 = .ok (.iconst 0, 1) := by decide +kernel
theorem dX4_counted_1 : decode cX4_counted 1 = .ok (.istore_n 2, 1) := by decide +kernel
theorem dX4_counted_2 : decode cX4_counted 2 = .ok (.iload_n 1, 1) := by decide +kernel
theorem dX4_counted_3 : decode cX4_counted 3 = .ok (.tableswitch 170 0 7 #[45, 52, 57, 91, 98, 103, 115, 163], 45) := by decide +kernel
theorem dX4_counted_48 : decode cX4_counted 48 = .ok (.aload_n 0, 1) := by decide +kernel
theorem dX4_counted_49 : decode cX4_counted 49 = .ok (.getfield 19, 3) := by decide +kernel
theorem dX4_counted_52 : decode cX4_counted 52 = .ok (.iconst 0, 1) := by decide +kernel
theorem dX4_counted_53 : decode cX4_counted 53 = .ok (.iaload, 1) := by decide +kernel
theorem dX4_counted_54 : decode cX4_counted 54 = .ok (.ireturn, 1) := by decide +kernel
theorem dX4_counted_55 : decode cX4_counted 55 = .ok (.aload_n 0, 1) := by decide +kernel
theorem dX4_counted_56 : decode cX4_counted 56 = .ok (.getfield 36, 3) := by decide +kernel
theorem dX4_counted_59 : decode cX4_counted 59 = .ok (.ireturn, 1) := by decide +kernel
theorem dX4_counted_60 : decode cX4_counted 60 = .ok (.iconst 0, 1) := by decide +kernel
theorem dX4_counted_61 : decode cX4_counted 61 = .ok (.istore_n 3, 1) := by decide +kernel
theorem dX4_counted_62 : decode cX4_counted 62 = .ok (.iload_n 3, 1) := by decide +kernel
theorem dX4_counted_63 : decode cX4_counted 63 = .ok (.aload_n 0, 1) := by decide +kernel
theorem dX4_counted_64 : decode cX4_counted 64 = .ok (.getfield 36, 3) := by decide +kernel
theorem dX4_counted_67 : decode cX4_counted 67 = .ok (.if_icmp .ge 25, 3) := by decide +kernel
theorem dX4_counted_70 : decode cX4_counted 70 = .ok (.iload_n 2, 1) := by decide +kernel
theorem dX4_counted_71 : decode cX4_counted 71 = .ok (.aload_n 0, 1) := by decide +kernel
theorem dX4_counted_72 : decode cX4_counted 72 = .ok (.iload_n 3, 1) := by decide +kernel
theorem dX4_counted_73 : decode cX4_counted 73 = .ok (.invokevirtual 51, 3) := by decide +kernel
theorem dX4_counted_76 : decode cX4_counted 76 = .ok (.ifCond .eq 7, 3) := by decide +kernel
theorem dX4_counted_79 : decode cX4_counted 79 = .ok (.iconst 1, 1) := by decide +kernel
theorem dX4_counted_80 : decode cX4_counted 80 = .ok (.goto 4, 3) := by decide +kernel
theorem dX4_counted_83 : decode cX4_counted 83 = .ok (.iconst 0, 1) := by decide +kernel
theorem dX4_counted_84 : decode cX4_counted 84 = .ok (.iadd, 1) := by decide +kernel
theorem dX4_counted_85 : decode cX4_counted 85 = .ok (.istore_n 2, 1) := by decide +kernel
theorem dX4_counted_86 : decode cX4_counted 86 = .ok (.iinc 3 1, 3) := by decide +kernel
theorem dX4_counted_89 : decode cX4_counted 89 = .ok (.goto (-27), 3) := by decide +kernel
theorem dX4_counted_92 : decode cX4_counted 92 = .ok (.iload_n 2, 1) := by decide +kernel
theorem dX4_counted_93 : decode cX4_counted 93 = .ok (.ireturn, 1) := by decide +kernel
theorem dX4_counted_94 : decode cX4_counted 94 = .ok (.aload_n 0, 1) := by decide +kernel
theorem dX4_counted_95 : decode cX4_counted 95 = .ok (.getfield 19, 3) := by decide +kernel
theorem dX4_counted_98 : decode cX4_counted 98 = .ok (.iconst 1, 1) := by decide +kernel
theorem dX4_counted_99 : decode cX4_counted 99 = .ok (.iaload, 1) := by decide +kernel
theorem dX4_counted_100 : decode cX4_counted 100 = .ok (.ireturn, 1) := by decide +kernel
theorem dX4_counted_101 : decode cX4_counted 101 = .ok (.aload_n 0, 1) := by decide +kernel
theorem dX4_counted_102 : decode cX4_counted 102 = .ok (.invokevirtual 116, 3) := by decide +kernel
theorem dX4_counted_105 : decode cX4_counted 105 = .ok (.ireturn, 1) := by decide +kernel
theorem dX4_counted_106 : decode cX4_counted 106 = .ok (.aload_n 0, 1) := by decide +kernel
theorem dX4_counted_107 : decode cX4_counted 107 = .ok (.getfield 19, 3) := by decide +kernel
theorem dX4_counted_110 : decode cX4_counted 110 = .ok (.iconst 1, 1) := by decide +kernel
theorem dX4_counted_111 : decode cX4_counted 111 = .ok (.iaload, 1) := by decide +kernel
theorem dX4_counted_112 : decode cX4_counted 112 = .ok (.aload_n 0, 1) := by decide +kernel
theorem dX4_counted_113 : decode cX4_counted 113 = .ok (.invokevirtual 116, 3) := by decide +kernel
theorem dX4_counted_116 : decode cX4_counted 116 = .ok (.isub, 1) := by decide +kernel
theorem dX4_counted_117 : decode cX4_counted 117 = .ok (.ireturn, 1) := by decide +kernel
theorem dX4_counted_118 : decode cX4_counted 118 = .ok (.iconst 0, 1) := by decide +kernel
theorem dX4_counted_119 : decode cX4_counted 119 = .ok (.istore_n 3, 1) := by decide +kernel
theorem dX4_counted_120 : decode cX4_counted 120 = .ok (.iload_n 3, 1) := by decide +kernel
theorem dX4_counted_121 : decode cX4_counted 121 = .ok (.aload_n 0, 1) := by decide +kernel
theorem dX4_counted_122 : decode cX4_counted 122 = .ok (.getfield 36, 3) := by decide +kernel
theorem dX4_counted_125 : decode cX4_counted 125 = .ok (.if_icmp .ge 39, 3) := by decide +kernel
theorem dX4_counted_128 : decode cX4_counted 128 = .ok (.iload_n 2, 1) := by decide +kernel
theorem dX4_counted_129 : decode cX4_counted 129 = .ok (.aload_n 0, 1) := by decide +kernel
theorem dX4_counted_130 : decode cX4_counted 130 = .ok (.iload_n 3, 1) := by decide +kernel
theorem dX4_counted_131 : decode cX4_counted 131 = .ok (.invokevirtual 51, 3) := by decide +kernel
theorem dX4_counted_134 : decode cX4_counted 134 = .ok (.ifCond .eq 21, 3) := by decide +kernel
theorem dX4_counted_137 : decode cX4_counted 137 = .ok (.aload_n 0, 1) := by decide +kernel
theorem dX4_counted_138 : decode cX4_counted 138 = .ok (.iload_n 3, 1) := by decide +kernel
theorem dX4_counted_139 : decode cX4_counted 139 = .ok (.iconst 2, 1) := by decide +kernel
theorem dX4_counted_140 : decode cX4_counted 140 = .ok (.invokevirtual 39, 3) := by decide +kernel
theorem dX4_counted_143 : decode cX4_counted 143 = .ok (.ifCond .ne 12, 3) := by decide +kernel
theorem dX4_counted_146 : decode cX4_counted 146 = .ok (.aload_n 0, 1) := by decide +kernel
theorem dX4_counted_147 : decode cX4_counted 147 = .ok (.iload_n 3, 1) := by decide +kernel
theorem dX4_counted_148 : decode cX4_counted 148 = .ok (.iconst 1, 1) := by decide +kernel
theorem dX4_counted_149 : decode cX4_counted 149 = .ok (.invokevirtual 39, 3) := by decide +kernel
theorem dX4_counted_152 : decode cX4_counted 152 = .ok (.goto 4, 3) := by decide +kernel
theorem dX4_counted_155 : decode cX4_counted 155 = .ok (.iconst 0, 1) := by decide +kernel
theorem dX4_counted_156 : decode cX4_counted 156 = .ok (.iadd, 1) := by decide +kernel
theorem dX4_counted_157 : decode cX4_counted 157 = .ok (.istore_n 2, 1) := by decide +kernel
theorem dX4_counted_158 : decode cX4_counted 158 = .ok (.iinc 3 1, 3) := by decide +kernel
theorem dX4_counted_161 : decode cX4_counted 161 = .ok (.goto (-41), 3) := by decide +kernel
theorem dX4_counted_164 : decode cX4_counted 164 = .ok (.iload_n 2, 1) := by decide +kernel
theorem dX4_counted_165 : decode cX4_counted 165 = .ok (.ireturn, 1) := by decide +kernel
theorem dX4_counted_166 : decode cX4_counted 166 = .ok (.aload_n 0, 1) := by decide +kernel
theorem dX4_counted_167 : decode cX4_counted 167 = .ok (.getfield 19, 3) := by decide +kernel
theorem dX4_counted_170 : decode cX4_counted 170 = .ok (.iconst 2, 1) := by decide +kernel
theorem dX4_counted_171 : decode cX4_counted 171 = .ok (.iaload, 1) := by decide +kernel
theorem dX4_counted_172 : decode cX4_counted 172 = .ok (.ireturn, 1) := by decide +kernel
theorem dX4_counted_173 : decode cX4_counted 173 = .ok (.iconst 0, 1) := by decide +kernel
theorem dX4_counted_174 : decode cX4_counted 174 = .ok (.istore_n 3, 1) := by decide +kernel
theorem dX4_counted_175 : decode cX4_counted 175 = .ok (.iload_n 3, 1) := by decide +kernel
theorem dX4_counted_176 : decode cX4_counted 176 = .ok (.aload_n 0, 1) := by decide +kernel
theorem dX4_counted_177 : decode cX4_counted 177 = .ok (.getfield 36, 3) := by decide +kernel
theorem dX4_counted_180 : decode cX4_counted 180 = .ok (.if_icmp .ge 19, 3) := by decide +kernel
theorem dX4_counted_183 : decode cX4_counted 183 = .ok (.iload_n 2, 1) := by decide +kernel
theorem dX4_counted_184 : decode cX4_counted 184 = .ok (.aload_n 0, 1) := by decide +kernel
theorem dX4_counted_185 : decode cX4_counted 185 = .ok (.iload_n 3, 1) := by decide +kernel
theorem dX4_counted_186 : decode cX4_counted 186 = .ok (.bipush 6, 2) := by decide +kernel
theorem dX4_counted_188 : decode cX4_counted 188 = .ok (.invokevirtual 39, 3) := by decide +kernel
theorem dX4_counted_191 : decode cX4_counted 191 = .ok (.iadd, 1) := by decide +kernel
theorem dX4_counted_192 : decode cX4_counted 192 = .ok (.istore_n 2, 1) := by decide +kernel
theorem dX4_counted_193 : decode cX4_counted 193 = .ok (.iinc 3 1, 3) := by decide +kernel
theorem dX4_counted_196 : decode cX4_counted 196 = .ok (.goto (-21), 3) := by decide +kernel
theorem dX4_counted_199 : decode cX4_counted 199 = .ok (.iload_n 2, 1) := by decide +kernel
theorem dX4_counted_200 : decode cX4_counted 200 = .ok (.ireturn, 1) := by decide +kernel
set_option maxRecDepth 20000 in
theorem ggX4_count_X4_isIn : GoodIn wsX4_count wsX4_isIn := goodIn_r _ [5] (by decide +kernel) (by decide +kernel)
set_option maxRecDepth 20000 in
theorem gX4_count_X4_isIn : GoodIn wsX4_count (va_wsS RX4 32 yX4_isIn wsX4_isIn) := goodIn_app (goodIn_of _ (by decide +kernel)) ggX4_count_X4_isIn
set_option maxRecDepth 20000 in
theorem ggX4_count_X4_counted : GoodIn wsX4_count wsX4_counted := goodIn_r _ [9, 10, 11, 12, 13, 14, 4, 15, 16, 17, 18, 19, 20, 21, 22, 23, 24, 25, 26, 27, 28, 29, 30, 31, 32, 33, 38, 39, 40, 41, 42, 43, 44] (by decide +kernel) (by decide +kernel)
set_option maxRecDepth 20000 in
theorem gX4_count_X4_counted : GoodIn wsX4_count (wsV RX4 120 RX4 yX4_counted wsX4_counted) := goodIn_app (goodIn_of _ (by decide +kernel)) ggX4_count_X4_counted
set_option maxRecDepth 20000 in
theorem ggX4_count_X4_fail : GoodIn wsX4_count wsX4_fail := goodIn_r _ [37, 1, 38, 39, 40, 41, 42, 43, 44] (by decide +kernel) (by decide +kernel)
set_option maxRecDepth 20000 in
theorem gX4_count_X4_fail : GoodIn wsX4_count (wsV RX4 72 RX4 yX4_fail wsX4_fail) := goodIn_app (goodIn_of _ (by decide +kernel)) ggX4_count_X4_fail
theorem dX4_count_0 : decode cX4_count 0 = .ok (.aload_n 0, 1) := by decide +kernel
theorem dX4_count_1 : decode cX4_count 1 = .ok (.iconst 0, 1) := by decide +kernel
theorem dX4_count_2 : decode cX4_count 2 = .ok (.putfield 28, 3) := by decide +kernel
theorem dX4_count_5 : decode cX4_count 5 = .ok (.iload_n 1, 1) := by decide +kernel
theorem dX4_count_6 : decode cX4_count 6 = .ok (.iconst 0, 1) := by decide +kernel
theorem dX4_count_7 : decode cX4_count 7 = .ok (.bipush 8, 2) := by decide +kernel
theorem dX4_count_9 : decode cX4_count 9 = .ok (.invokestatic 32, 3) := by decide +kernel
theorem dX4_count_12 : decode cX4_count 12 = .ok (.ifCond .eq 11, 3) := by decide +kernel
theorem dX4_count_15 : decode cX4_count 15 = .ok (.aload_n 0, 1) := by decide +kernel
theorem dX4_count_16 : decode cX4_count 16 = .ok (.iload_n 1, 1) := by decide +kernel
theorem dX4_count_17 : decode cX4_count 17 = .ok (.invokevirtual 120, 3) := by decide +kernel
theorem dX4_count_20 : decode cX4_count 20 = .ok (.goto 8, 3) := by decide +kernel
theorem dX4_count_23 : decode cX4_count 23 = .ok (.aload_n 0, 1) := by decide +kernel
theorem dX4_count_24 : decode cX4_count 24 = .ok (.iconst 1, 1) := by decide +kernel
theorem dX4_count_25 : decode cX4_count 25 = .ok (.invokevirtual 72, 3) := by decide +kernel
theorem dX4_count_28 : decode cX4_count 28 = .ok (.ireturn, 1) := by decide +kernel
set_option maxRecDepth 20000 in
theorem ggX4_alive_X4_isAge : GoodIn wsX4_alive wsX4_isAge := goodIn_r _ [6, 7, 8, 5, 9] (by decide +kernel) (by decide +kernel)
set_option maxRecDepth 20000 in
theorem gX4_alive_X4_isAge : GoodIn wsX4_alive (va_wsS RX4 69 yX4_isAge wsX4_isAge) := goodIn_app (goodIn_of _ (by decide +kernel)) ggX4_alive_X4_isAge
set_option maxRecDepth 20000 in
theorem ggX4_alive_X4_isIn : GoodIn wsX4_alive wsX4_isIn := goodIn_r _ [9] (by decide +kernel) (by decide +kernel)
set_option maxRecDepth 20000 in
theorem gX4_alive_X4_isIn : GoodIn wsX4_alive (va_wsS RX4 32 yX4_isIn wsX4_isIn) := goodIn_app (goodIn_of _ (by decide +kernel)) ggX4_alive_X4_isIn
set_option maxRecDepth 20000 in
theorem ggX4_alive_X4_fail : GoodIn wsX4_alive wsX4_fail := goodIn_r _ [13, 1, 14, 15, 16, 17, 18, 19, 20] (by decide +kernel) (by decide +kernel)
set_option maxRecDepth 20000 in
theorem gX4_alive_X4_fail : GoodIn wsX4_alive (wsV RX4 72 RX4 yX4_fail wsX4_fail) := goodIn_app (goodIn_of _ (by decide +kernel)) ggX4_alive_X4_fail
theorem dX4_alive_0 : decode cX4_alive 0 = .ok (.aload_n 0, 1) := by decide +kernel
theorem dX4_alive_1 : decode cX4_alive 1 = .ok (.iconst 0, 1) := by decide +kernel
theorem dX4_alive_2 : decode cX4_alive 2 = .ok (.putfield 28, 3) := by decide +kernel
theorem dX4_alive_5 : decode cX4_alive 5 = .ok (.iload_n 1, 1) := by decide +kernel
theorem dX4_alive_6 : decode cX4_alive 6 = .ok (.invokestatic 69, 3) := by decide +kernel
theorem dX4_alive_9 : decode cX4_alive 9 = .ok (.ifCond .eq 13, 3) := by decide +kernel
theorem dX4_alive_12 : decode cX4_alive 12 = .ok (.iload_n 2, 1) := by decide +kernel
theorem dX4_alive_13 : decode cX4_alive 13 = .ok (.iconst 0, 1) := by decide +kernel
theorem dX4_alive_14 : decode cX4_alive 14 = .ok (.bipush 60, 2) := by decide +kernel
theorem dX4_alive_16 : decode cX4_alive 16 = .ok (.invokestatic 32, 3) := by decide +kernel
theorem dX4_alive_19 : decode cX4_alive 19 = .ok (.ifCond .ne 9, 3) := by decide +kernel
theorem dX4_alive_22 : decode cX4_alive 22 = .ok (.aload_n 0, 1) := by decide +kernel
theorem dX4_alive_23 : decode cX4_alive 23 = .ok (.iconst 1, 1) := by decide +kernel
theorem dX4_alive_24 : decode cX4_alive 24 = .ok (.invokevirtual 72, 3) := by decide +kernel
theorem dX4_alive_27 : decode cX4_alive 27 = .ok (.ireturn, 1) := by decide +kernel
theorem dX4_alive_28 : decode cX4_alive 28 = .ok (.iload_n 1, 1) := by decide +kernel
theorem dX4_alive_29 : decode cX4_alive 29 = .ok (.iload_n 2, 1) := by decide +kernel
theorem dX4_alive_30 : decode cX4_alive 30 = .ok (.iadd, 1) := by decide +kernel
theorem dX4_alive_31 : decode cX4_alive 31 = .ok (.bipush 100, 2) := by decide +kernel
theorem dX4_alive_33 : decode cX4_alive 33 = .ok (.if_icmp .lt 5, 3) := by decide +kernel
theorem dX4_alive_36 : decode cX4_alive 36 = .ok (.iconst 0, 1) := by decide +kernel
theorem dX4_alive_37 : decode cX4_alive 37 = .ok (.ireturn, 1) := by decide +kernel
theorem dX4_alive_38 : decode cX4_alive 38 = .ok (.sipush 1000, 3) := by decide +kernel
theorem dX4_alive_41 : decode cX4_alive 41 = .ok (.istore_n 3, 1) := by decide +kernel
theorem dX4_alive_42 : decode cX4_alive 42 = .ok (.iconst 0, 1) := by decide +kernel
theorem dX4_alive_43 : decode cX4_alive 43 = .ok (.istore 4, 2) := by decide +kernel
theorem dX4_alive_45 : decode cX4_alive 45 = .ok (.iload 4, 2) := by decide +kernel
theorem dX4_alive_47 : decode cX4_alive 47 = .ok (.iload_n 2, 1) := by decide +kernel
theorem dX4_alive_48 : decode cX4_alive 48 = .ok (.if_icmp .ge 32, 3) := by decide +kernel
theorem dX4_alive_51 : decode cX4_alive 51 = .ok (.iload_n 3, 1) := by decide +kernel
theorem dX4_alive_52 : decode cX4_alive 52 = .ok (.sipush 1000, 3) := by decide +kernel
theorem dX4_alive_55 : decode cX4_alive 55 = .ok (.aload_n 0, 1) := by decide +kernel
theorem dX4_alive_56 : decode cX4_alive 56 = .ok (.getfield 13, 3) := by decide +kernel
theorem dX4_alive_59 : decode cX4_alive 59 = .ok (.iload_n 1, 1) := by decide +kernel
theorem dX4_alive_60 : decode cX4_alive 60 = .ok (.bipush 50, 2) := by decide +kernel
theorem dX4_alive_62 : decode cX4_alive 62 = .ok (.isub, 1) := by decide +kernel
theorem dX4_alive_63 : decode cX4_alive 63 = .ok (.iload 4, 2) := by decide +kernel
theorem dX4_alive_65 : decode cX4_alive 65 = .ok (.iadd, 1) := by decide +kernel
theorem dX4_alive_66 : decode cX4_alive 66 = .ok (.iaload, 1) := by decide +kernel
theorem dX4_alive_67 : decode cX4_alive 67 = .ok (.isub, 1) := by decide +kernel
theorem dX4_alive_68 : decode cX4_alive 68 = .ok (.imul, 1) := by decide +kernel
theorem dX4_alive_69 : decode cX4_alive 69 = .ok (.sipush 1000, 3) := by decide +kernel
theorem dX4_alive_72 : decode cX4_alive 72 = .ok (.idiv, 1) := by decide +kernel
theorem dX4_alive_73 : decode cX4_alive 73 = .ok (.istore_n 3, 1) := by decide +kernel
theorem dX4_alive_74 : decode cX4_alive 74 = .ok (.iinc 4 1, 3) := by decide +kernel
theorem dX4_alive_77 : decode cX4_alive 77 = .ok (.goto (-32), 3) := by decide +kernel
theorem dX4_alive_80 : decode cX4_alive 80 = .ok (.iload_n 3, 1) := by decide +kernel
theorem dX4_alive_81 : decode cX4_alive 81 = .ok (.ireturn, 1) := by decide +kernel
theorem dX4_copy_0 : decode cX4_copy 0 = .ok (.aload_n 0, 1) := by decide +kernel
theorem dX4_copy_1 : decode cX4_copy 1 = .ok (.arraylength, 1) := by decide +kernel
theorem dX4_copy_2 : decode cX4_copy 2 = .ok (.newarray .int, 2) := by decide +kernel
theorem dX4_copy_4 : decode cX4_copy 4 = .ok (.astore_n 1, 1) := by decide +kernel
theorem dX4_copy_5 : decode cX4_copy 5 = .ok (.aload_n 0, 1) := by decide +kernel
theorem dX4_copy_6 : decode cX4_copy 6 = .ok (.iconst 0, 1) := by decide +kernel
theorem dX4_copy_7 : decode cX4_copy 7 = .ok (.aload_n 1, 1) := by decide +kernel
theorem dX4_copy_8 : decode cX4_copy 8 = .ok (.iconst 0, 1) := by decide +kernel
theorem dX4_copy_9 : decode cX4_copy 9 = .ok (.aload_n 0, 1) := by decide +kernel
theorem dX4_copy_10 : decode cX4_copy 10 = .ok (.arraylength, 1) := by decide +kernel
theorem dX4_copy_11 : decode cX4_copy 11 = .ok (.invokestatic 91, 3) := by decide +kernel
theorem dX4_copy_14 : decode cX4_copy 14 = .ok (.aload_n 1, 1) := by decide +kernel
theorem dX4_copy_15 : decode cX4_copy 15 = .ok (.areturn, 1) := by decide +kernel
set_option maxRecDepth 20000 in
theorem ggX4_yearOn_X4_comeIn : GoodIn wsX4_yearOn wsX4_comeIn := goodIn_r _ [9, 1, 10, 11, 12, 13, 14, 32, 33, 34, 35, 36, 37, 38] (by decide +kernel) (by decide +kernel)
set_option maxRecDepth 20000 in
theorem gX4_yearOn_X4_comeIn : GoodIn wsX4_yearOn (wsV RX4 97 RX4 yX4_comeIn wsX4_comeIn) := goodIn_app (goodIn_of _ (by decide +kernel)) ggX4_yearOn_X4_comeIn
set_option maxRecDepth 20000 in
theorem ggX4_yearOn_X4_isAlive : GoodIn wsX4_yearOn wsX4_isAlive := goodIn_r _ [18, 19, 20, 21, 8, 22, 23, 32, 33, 34, 35, 36, 37, 38] (by decide +kernel) (by decide +kernel)
set_option maxRecDepth 20000 in
theorem gX4_yearOn_X4_isAlive : GoodIn wsX4_yearOn (wsV RX4 51 RX4 yX4_isAlive wsX4_isAlive) := goodIn_app (goodIn_of _ (by decide +kernel)) ggX4_yearOn_X4_isAlive
set_option maxRecDepth 20000 in
theorem ggX4_yearOn_X4_wi : GoodIn wsX4_yearOn wsX4_wi := goodIn_r _ [22, 23, 32, 33, 34, 35, 36, 37, 38] (by decide +kernel) (by decide +kernel)
set_option maxRecDepth 20000 in
theorem gX4_yearOn_X4_wi : GoodIn wsX4_yearOn (wsV RX4 39 RX4 yX4_wi wsX4_wi) := goodIn_app (goodIn_of _ (by decide +kernel)) ggX4_yearOn_X4_wi
set_option maxRecDepth 20000 in
theorem ggX4_yearOn_X4_payOut : GoodIn wsX4_yearOn wsX4_payOut := goodIn_r _ [27, 1, 19, 20, 21, 8, 22, 23, 28, 29, 30, 31, 32, 33, 34, 35, 36, 37, 38] (by decide +kernel) (by decide +kernel)
set_option maxRecDepth 20000 in
theorem gX4_yearOn_X4_payOut : GoodIn wsX4_yearOn (wsV RX4 107 RX4 yX4_payOut wsX4_payOut) := goodIn_app (goodIn_of _ (by decide +kernel)) ggX4_yearOn_X4_payOut
set_option maxRecDepth 20000 in
theorem ggX4_yearOn_X4_let : GoodIn wsX4_yearOn wsX4_let := goodIn_r _ [31, 23, 32, 33, 34, 35, 36, 37, 38] (by decide +kernel) (by decide +kernel)
set_option maxRecDepth 20000 in
theorem gX4_yearOn_X4_let : GoodIn wsX4_yearOn (wsV RX4 65 RX4 yX4_let wsX4_let) := goodIn_app (goodIn_of _ (by decide +kernel)) ggX4_yearOn_X4_let
theorem dX4_yearOn_0 : decode cX4_yearOn 0 = .ok (.aload_n 0, 1) := by decide +kernel
theorem dX4_yearOn_1 : decode cX4_yearOn 1 = .ok (.getfield 19, 3) := by decide +kernel
theorem dX4_yearOn_4 : decode cX4_yearOn 4 = .ok (.iconst 1, 1) := by decide +kernel
theorem dX4_yearOn_5 : decode cX4_yearOn 5 = .ok (.iaload, 1) := by decide +kernel
theorem dX4_yearOn_6 : decode cX4_yearOn 6 = .ok (.ifCond .le 26, 3) := by decide +kernel
theorem dX4_yearOn_9 : decode cX4_yearOn 9 = .ok (.aload_n 0, 1) := by decide +kernel
theorem dX4_yearOn_10 : decode cX4_yearOn 10 = .ok (.aload_n 0, 1) := by decide +kernel
theorem dX4_yearOn_11 : decode cX4_yearOn 11 = .ok (.getfield 19, 3) := by decide +kernel
theorem dX4_yearOn_14 : decode cX4_yearOn 14 = .ok (.iconst 1, 1) := by decide +kernel
theorem dX4_yearOn_15 : decode cX4_yearOn 15 = .ok (.iaload, 1) := by decide +kernel
theorem dX4_yearOn_16 : decode cX4_yearOn 16 = .ok (.i2l, 1) := by decide +kernel
theorem dX4_yearOn_17 : decode cX4_yearOn 17 = .ok (.aload_n 0, 1) := by decide +kernel
theorem dX4_yearOn_18 : decode cX4_yearOn 18 = .ok (.getfield 7, 3) := by decide +kernel
theorem dX4_yearOn_21 : decode cX4_yearOn 21 = .ok (.iconst 0, 1) := by decide +kernel
theorem dX4_yearOn_22 : decode cX4_yearOn 22 = .ok (.iaload, 1) := by decide +kernel
theorem dX4_yearOn_23 : decode cX4_yearOn 23 = .ok (.i2l, 1) := by decide +kernel
theorem dX4_yearOn_24 : decode cX4_yearOn 24 = .ok (.lmul, 1) := by decide +kernel
theorem dX4_yearOn_25 : decode cX4_yearOn 25 = .ok (.ldc2_w 123, 3) := by decide +kernel
theorem dX4_yearOn_28 : decode cX4_yearOn 28 = .ok (.ldiv, 1) := by decide +kernel
theorem dX4_yearOn_29 : decode cX4_yearOn 29 = .ok (.invokevirtual 97, 3) := by decide +kernel
theorem dX4_yearOn_32 : decode cX4_yearOn 32 = .ok (.iconst 0, 1) := by decide +kernel
theorem dX4_yearOn_33 : decode cX4_yearOn 33 = .ok (.istore_n 1, 1) := by decide +kernel
theorem dX4_yearOn_34 : decode cX4_yearOn 34 = .ok (.iload_n 1, 1) := by decide +kernel
theorem dX4_yearOn_35 : decode cX4_yearOn 35 = .ok (.aload_n 0, 1) := by decide +kernel
theorem dX4_yearOn_36 : decode cX4_yearOn 36 = .ok (.getfield 36, 3) := by decide +kernel
theorem dX4_yearOn_39 : decode cX4_yearOn 39 = .ok (.if_icmp .ge 103, 3) := by decide +kernel
theorem dX4_yearOn_42 : decode cX4_yearOn 42 = .ok (.aload_n 0, 1) := by decide +kernel
theorem dX4_yearOn_43 : decode cX4_yearOn 43 = .ok (.iload_n 1, 1) := by decide +kernel
theorem dX4_yearOn_44 : decode cX4_yearOn 44 = .ok (.invokevirtual 51, 3) := by decide +kernel
theorem dX4_yearOn_47 : decode cX4_yearOn 47 = .ok (.ifCond .ne 6, 3) := by decide +kernel
theorem dX4_yearOn_50 : decode cX4_yearOn 50 = .ok (.goto 86, 3) := by decide +kernel
theorem dX4_yearOn_53 : decode cX4_yearOn 53 = .ok (.aload_n 0, 1) := by decide +kernel
theorem dX4_yearOn_54 : decode cX4_yearOn 54 = .ok (.iload_n 1, 1) := by decide +kernel
theorem dX4_yearOn_55 : decode cX4_yearOn 55 = .ok (.iconst 2, 1) := by decide +kernel
theorem dX4_yearOn_56 : decode cX4_yearOn 56 = .ok (.invokevirtual 39, 3) := by decide +kernel
theorem dX4_yearOn_59 : decode cX4_yearOn 59 = .ok (.ifCond .ne 17, 3) := by decide +kernel
theorem dX4_yearOn_62 : decode cX4_yearOn 62 = .ok (.aload_n 0, 1) := by decide +kernel
theorem dX4_yearOn_63 : decode cX4_yearOn 63 = .ok (.iload_n 1, 1) := by decide +kernel
theorem dX4_yearOn_64 : decode cX4_yearOn 64 = .ok (.aload_n 0, 1) := by decide +kernel
theorem dX4_yearOn_65 : decode cX4_yearOn 65 = .ok (.iload_n 1, 1) := by decide +kernel
theorem dX4_yearOn_66 : decode cX4_yearOn 66 = .ok (.iconst 1, 1) := by decide +kernel
theorem dX4_yearOn_67 : decode cX4_yearOn 67 = .ok (.invokevirtual 39, 3) := by decide +kernel
theorem dX4_yearOn_70 : decode cX4_yearOn 70 = .ok (.invokevirtual 107, 3) := by decide +kernel
theorem dX4_yearOn_73 : decode cX4_yearOn 73 = .ok (.goto 17, 3) := by decide +kernel
theorem dX4_yearOn_76 : decode cX4_yearOn 76 = .ok (.aload_n 0, 1) := by decide +kernel
theorem dX4_yearOn_77 : decode cX4_yearOn 77 = .ok (.iload_n 1, 1) := by decide +kernel
theorem dX4_yearOn_78 : decode cX4_yearOn 78 = .ok (.iconst 2, 1) := by decide +kernel
theorem dX4_yearOn_79 : decode cX4_yearOn 79 = .ok (.aload_n 0, 1) := by decide +kernel
theorem dX4_yearOn_80 : decode cX4_yearOn 80 = .ok (.iload_n 1, 1) := by decide +kernel
theorem dX4_yearOn_81 : decode cX4_yearOn 81 = .ok (.iconst 2, 1) := by decide +kernel
theorem dX4_yearOn_82 : decode cX4_yearOn 82 = .ok (.invokevirtual 39, 3) := by decide +kernel
theorem dX4_yearOn_85 : decode cX4_yearOn 85 = .ok (.iconst 1, 1) := by decide +kernel
theorem dX4_yearOn_86 : decode cX4_yearOn 86 = .ok (.isub, 1) := by decide +kernel
theorem dX4_yearOn_87 : decode cX4_yearOn 87 = .ok (.invokevirtual 65, 3) := by decide +kernel
theorem dX4_yearOn_90 : decode cX4_yearOn 90 = .ok (.aload_n 0, 1) := by decide +kernel
theorem dX4_yearOn_91 : decode cX4_yearOn 91 = .ok (.iload_n 1, 1) := by decide +kernel
theorem dX4_yearOn_92 : decode cX4_yearOn 92 = .ok (.iconst 0, 1) := by decide +kernel
theorem dX4_yearOn_93 : decode cX4_yearOn 93 = .ok (.aload_n 0, 1) := by decide +kernel
theorem dX4_yearOn_94 : decode cX4_yearOn 94 = .ok (.iload_n 1, 1) := by decide +kernel
theorem dX4_yearOn_95 : decode cX4_yearOn 95 = .ok (.iconst 0, 1) := by decide +kernel
theorem dX4_yearOn_96 : decode cX4_yearOn 96 = .ok (.invokevirtual 39, 3) := by decide +kernel
theorem dX4_yearOn_99 : decode cX4_yearOn 99 = .ok (.iconst 1, 1) := by decide +kernel
theorem dX4_yearOn_100 : decode cX4_yearOn 100 = .ok (.iadd, 1) := by decide +kernel
theorem dX4_yearOn_101 : decode cX4_yearOn 101 = .ok (.invokevirtual 65, 3) := by decide +kernel
theorem dX4_yearOn_104 : decode cX4_yearOn 104 = .ok (.aload_n 0, 1) := by decide +kernel
theorem dX4_yearOn_105 : decode cX4_yearOn 105 = .ok (.iload_n 1, 1) := by decide +kernel
theorem dX4_yearOn_106 : decode cX4_yearOn 106 = .ok (.iconst 3, 1) := by decide +kernel
theorem dX4_yearOn_107 : decode cX4_yearOn 107 = .ok (.aload_n 0, 1) := by decide +kernel
theorem dX4_yearOn_108 : decode cX4_yearOn 108 = .ok (.iload_n 1, 1) := by decide +kernel
theorem dX4_yearOn_109 : decode cX4_yearOn 109 = .ok (.iconst 3, 1) := by decide +kernel
theorem dX4_yearOn_110 : decode cX4_yearOn 110 = .ok (.invokevirtual 39, 3) := by decide +kernel
theorem dX4_yearOn_113 : decode cX4_yearOn 113 = .ok (.iconst 1, 1) := by decide +kernel
theorem dX4_yearOn_114 : decode cX4_yearOn 114 = .ok (.iadd, 1) := by decide +kernel
theorem dX4_yearOn_115 : decode cX4_yearOn 115 = .ok (.invokevirtual 65, 3) := by decide +kernel
theorem dX4_yearOn_118 : decode cX4_yearOn 118 = .ok (.aload_n 0, 1) := by decide +kernel
theorem dX4_yearOn_119 : decode cX4_yearOn 119 = .ok (.iload_n 1, 1) := by decide +kernel
theorem dX4_yearOn_120 : decode cX4_yearOn 120 = .ok (.iconst 0, 1) := by decide +kernel
theorem dX4_yearOn_121 : decode cX4_yearOn 121 = .ok (.invokevirtual 39, 3) := by decide +kernel
theorem dX4_yearOn_124 : decode cX4_yearOn 124 = .ok (.bipush 100, 2) := by decide +kernel
theorem dX4_yearOn_126 : decode cX4_yearOn 126 = .ok (.if_icmp .ne 10, 3) := by decide +kernel
theorem dX4_yearOn_129 : decode cX4_yearOn 129 = .ok (.aload_n 0, 1) := by decide +kernel
theorem dX4_yearOn_130 : decode cX4_yearOn 130 = .ok (.iload_n 1, 1) := by decide +kernel
theorem dX4_yearOn_131 : decode cX4_yearOn 131 = .ok (.iconst 4, 1) := by decide +kernel
theorem dX4_yearOn_132 : decode cX4_yearOn 132 = .ok (.iconst 1, 1) := by decide +kernel
theorem dX4_yearOn_133 : decode cX4_yearOn 133 = .ok (.invokevirtual 65, 3) := by decide +kernel
theorem dX4_yearOn_136 : decode cX4_yearOn 136 = .ok (.iinc 1 1, 3) := by decide +kernel
theorem dX4_yearOn_139 : decode cX4_yearOn 139 = .ok (.goto (-105), 3) := by decide +kernel
theorem dX4_yearOn_142 : decode cX4_yearOn 142 = .ok (.aload_n 0, 1) := by decide +kernel
theorem dX4_yearOn_143 : decode cX4_yearOn 143 = .ok (.getfield 19, 3) := by decide +kernel
theorem dX4_yearOn_146 : decode cX4_yearOn 146 = .ok (.iconst 0, 1) := by decide +kernel
theorem dX4_yearOn_147 : decode cX4_yearOn 147 = .ok (.dup2, 1) := by decide +kernel
theorem dX4_yearOn_148 : decode cX4_yearOn 148 = .ok (.iaload, 1) := by decide +kernel
theorem dX4_yearOn_149 : decode cX4_yearOn 149 = .ok (.iconst 1, 1) := by decide +kernel
theorem dX4_yearOn_150 : decode cX4_yearOn 150 = .ok (.iadd, 1) := by decide +kernel
theorem dX4_yearOn_151 : decode cX4_yearOn 151 = .ok (.iastore, 1) := by decide +kernel
theorem dX4_yearOn_152 : decode cX4_yearOn 152 = .ok (.return_, 1) := by decide +kernel
set_option maxRecDepth 20000 in
theorem ggX4_yearsOn_X4_yearOn : GoodIn wsX4_yearsOn wsX4_yearOn := goodIn_r _ [5, 6, 7, 8, 9, 10, 11, 12, 4, 13, 14, 15, 16, 17, 18, 19, 20, 21, 22, 23, 24, 25, 26, 27, 28, 29, 30, 31, 32, 33, 34, 35, 36, 37, 38, 39, 40, 41, 42] (by decide +kernel) (by decide +kernel)
set_option maxRecDepth 20000 in
theorem gX4_yearsOn_X4_yearOn : GoodIn wsX4_yearsOn (wsV RX4 125 RX4 yX4_yearOn wsX4_yearOn) := goodIn_app (goodIn_of _ (by decide +kernel)) ggX4_yearsOn_X4_yearOn
theorem dX4_yearsOn_0 : decode cX4_yearsOn 0 = .ok (.iconst 0, 1) := by decide +kernel
theorem dX4_yearsOn_1 : decode cX4_yearsOn 1 = .ok (.istore_n 2, 1) := by decide +kernel
theorem dX4_yearsOn_2 : decode cX4_yearsOn 2 = .ok (.iload_n 2, 1) := by decide +kernel
theorem dX4_yearsOn_3 : decode cX4_yearsOn 3 = .ok (.iload_n 1, 1) := by decide +kernel
theorem dX4_yearsOn_4 : decode cX4_yearsOn 4 = .ok (.if_icmp .ge 13, 3) := by decide +kernel
theorem dX4_yearsOn_7 : decode cX4_yearsOn 7 = .ok (.aload_n 0, 1) := by decide +kernel
theorem dX4_yearsOn_8 : decode cX4_yearsOn 8 = .ok (.invokevirtual 125, 3) := by decide +kernel
theorem dX4_yearsOn_11 : decode cX4_yearsOn 11 = .ok (.iinc 2 1, 3) := by decide +kernel
theorem dX4_yearsOn_14 : decode cX4_yearsOn 14 = .ok (.goto (-12), 3) := by decide +kernel
theorem dX4_yearsOn_17 : decode cX4_yearsOn 17 = .ok (.return_, 1) := by decide +kernel
set_option maxRecDepth 20000 in
theorem ggX4_pass_X4_isIn : GoodIn wsX4_pass wsX4_isIn := goodIn_r _ [6] (by decide +kernel) (by decide +kernel)
set_option maxRecDepth 20000 in
theorem gX4_pass_X4_isIn : GoodIn wsX4_pass (va_wsS RX4 32 yX4_isIn wsX4_isIn) := goodIn_app (goodIn_of _ (by decide +kernel)) ggX4_pass_X4_isIn
set_option maxRecDepth 20000 in
theorem ggX4_pass_X4_fail : GoodIn wsX4_pass wsX4_fail := goodIn_r _ [10, 1, 48, 49, 50, 51, 52, 53, 54] (by decide +kernel) (by decide +kernel)
set_option maxRecDepth 20000 in
theorem gX4_pass_X4_fail : GoodIn wsX4_pass (wsV RX4 72 RX4 yX4_fail wsX4_fail) := goodIn_app (goodIn_of _ (by decide +kernel)) ggX4_pass_X4_fail
set_option maxRecDepth 20000 in
theorem ggX4_pass_X4_yearsOn : GoodIn wsX4_pass wsX4_yearsOn := goodIn_r _ [14, 15, 16, 17, 5, 18, 2, 19, 20, 21, 22, 23, 24, 25, 26, 27, 28, 29, 30, 31, 32, 33, 34, 35, 36, 37, 38, 39, 40, 41, 42, 43, 44, 45, 46, 47, 48, 49, 50, 51, 52, 53, 54] (by decide +kernel) (by decide +kernel)
set_option maxRecDepth 20000 in
theorem gX4_pass_X4_yearsOn : GoodIn wsX4_pass (wsV RX4 128 RX4 yX4_yearsOn wsX4_yearsOn) := goodIn_app (goodIn_of _ (by decide +kernel)) ggX4_pass_X4_yearsOn
theorem dX4_pass_0 : decode cX4_pass 0 = .ok (.aload_n 0, 1) := by decide +kernel
theorem dX4_pass_1 : decode cX4_pass 1 = .ok (.iconst 0, 1) := by decide +kernel
theorem dX4_pass_2 : decode cX4_pass 2 = .ok (.putfield 28, 3) := by decide +kernel
theorem dX4_pass_5 : decode cX4_pass 5 = .ok (.iload_n 1, 1) := by decide +kernel
theorem dX4_pass_6 : decode cX4_pass 6 = .ok (.iconst 1, 1) := by decide +kernel
theorem dX4_pass_7 : decode cX4_pass 7 = .ok (.bipush 50, 2) := by decide +kernel
theorem dX4_pass_9 : decode cX4_pass 9 = .ok (.invokestatic 32, 3) := by decide +kernel
theorem dX4_pass_12 : decode cX4_pass 12 = .ok (.ifCond .ne 9, 3) := by decide +kernel
theorem dX4_pass_15 : decode cX4_pass 15 = .ok (.aload_n 0, 1) := by decide +kernel
theorem dX4_pass_16 : decode cX4_pass 16 = .ok (.iconst 1, 1) := by decide +kernel
theorem dX4_pass_17 : decode cX4_pass 17 = .ok (.invokevirtual 72, 3) := by decide +kernel
theorem dX4_pass_20 : decode cX4_pass 20 = .ok (.ireturn, 1) := by decide +kernel
theorem dX4_pass_21 : decode cX4_pass 21 = .ok (.aload_n 0, 1) := by decide +kernel
theorem dX4_pass_22 : decode cX4_pass 22 = .ok (.getfield 19, 3) := by decide +kernel
theorem dX4_pass_25 : decode cX4_pass 25 = .ok (.iconst 2, 1) := by decide +kernel
theorem dX4_pass_26 : decode cX4_pass 26 = .ok (.iaload, 1) := by decide +kernel
theorem dX4_pass_27 : decode cX4_pass 27 = .ok (.istore_n 2, 1) := by decide +kernel
theorem dX4_pass_28 : decode cX4_pass 28 = .ok (.aload_n 0, 1) := by decide +kernel
theorem dX4_pass_29 : decode cX4_pass 29 = .ok (.iload_n 1, 1) := by decide +kernel
theorem dX4_pass_30 : decode cX4_pass 30 = .ok (.invokevirtual 128, 3) := by decide +kernel
theorem dX4_pass_33 : decode cX4_pass 33 = .ok (.aload_n 0, 1) := by decide +kernel
theorem dX4_pass_34 : decode cX4_pass 34 = .ok (.getfield 19, 3) := by decide +kernel
theorem dX4_pass_37 : decode cX4_pass 37 = .ok (.iconst 2, 1) := by decide +kernel
theorem dX4_pass_38 : decode cX4_pass 38 = .ok (.iaload, 1) := by decide +kernel
theorem dX4_pass_39 : decode cX4_pass 39 = .ok (.iload_n 2, 1) := by decide +kernel
theorem dX4_pass_40 : decode cX4_pass 40 = .ok (.isub, 1) := by decide +kernel
theorem dX4_pass_41 : decode cX4_pass 41 = .ok (.ireturn, 1) := by decide +kernel
set_option maxRecDepth 20000 in
theorem ggX4_foresee_X4_isIn : GoodIn wsX4_foresee wsX4_isIn := goodIn_r _ [7] (by decide +kernel) (by decide +kernel)
set_option maxRecDepth 20000 in
theorem gX4_foresee_X4_isIn : GoodIn wsX4_foresee (va_wsS RX4 32 yX4_isIn wsX4_isIn) := goodIn_app (goodIn_of _ (by decide +kernel)) ggX4_foresee_X4_isIn
set_option maxRecDepth 20000 in
theorem ggX4_foresee_X4_fail : GoodIn wsX4_foresee wsX4_fail := goodIn_r _ [11, 1, 73, 74, 75, 76, 77, 78, 79] (by decide +kernel) (by decide +kernel)
set_option maxRecDepth 20000 in
theorem gX4_foresee_X4_fail : GoodIn wsX4_foresee (wsV RX4 72 RX4 yX4_fail wsX4_fail) := goodIn_app (goodIn_of _ (by decide +kernel)) ggX4_foresee_X4_fail
set_option maxRecDepth 20000 in
theorem ggX4_foresee_X4_copy : GoodIn wsX4_foresee wsX4_copy := goodIn_r _ [14, 15, 16, 17, 18, 19] (by decide +kernel) (by decide +kernel)
set_option maxRecDepth 20000 in
theorem gX4_foresee_X4_copy : GoodIn wsX4_foresee (va_wsS RX4 132 yX4_copy wsX4_copy) := goodIn_app (goodIn_of _ (by decide +kernel)) ggX4_foresee_X4_copy
set_option maxRecDepth 20000 in
theorem ggX4_foresee_X4_yearsOn : GoodIn wsX4_foresee wsX4_yearsOn := goodIn_r _ [23, 24, 25, 26, 6, 27, 3, 28, 29, 30, 31, 32, 33, 34, 35, 36, 37, 38, 39, 40, 41, 42, 43, 44, 45, 46, 47, 2, 48, 49, 50, 51, 52, 53, 54, 55, 73, 74, 75, 76, 77, 78, 79] (by decide +kernel) (by decide +kernel)
set_option maxRecDepth 20000 in
theorem gX4_foresee_X4_yearsOn : GoodIn wsX4_foresee (wsV RX4 128 RX4 yX4_yearsOn wsX4_yearsOn) := goodIn_app (goodIn_of _ (by decide +kernel)) ggX4_foresee_X4_yearsOn
set_option maxRecDepth 20000 in
theorem ggX4_foresee_X4_counted : GoodIn wsX4_foresee wsX4_counted := goodIn_r _ [59, 3, 30, 40, 41, 42, 6, 43, 44, 45, 46, 47, 2, 60, 61, 62, 63, 64, 65, 66, 67, 68, 69, 70, 71, 72, 73, 74, 75, 76, 77, 78, 79] (by decide +kernel) (by decide +kernel)
set_option maxRecDepth 20000 in
theorem gX4_foresee_X4_counted : GoodIn wsX4_foresee (wsV RX4 120 RX4 yX4_counted wsX4_counted) := goodIn_app (goodIn_of _ (by decide +kernel)) ggX4_foresee_X4_counted
theorem dX4_foresee_0 : decode cX4_foresee 0 = .ok (.aload_n 0, 1) := by decide +kernel
theorem dX4_foresee_1 : decode cX4_foresee 1 = .ok (.iconst 0, 1) := by decide +kernel
theorem dX4_foresee_2 : decode cX4_foresee 2 = .ok (.putfield 28, 3) := by decide +kernel
theorem dX4_foresee_5 : decode cX4_foresee 5 = .ok (.iload_n 1, 1) := by decide +kernel
theorem dX4_foresee_6 : decode cX4_foresee 6 = .ok (.iconst 1, 1) := by decide +kernel
theorem dX4_foresee_7 : decode cX4_foresee 7 = .ok (.bipush 50, 2) := by decide +kernel
theorem dX4_foresee_9 : decode cX4_foresee 9 = .ok (.invokestatic 32, 3) := by decide +kernel
theorem dX4_foresee_12 : decode cX4_foresee 12 = .ok (.ifCond .ne 9, 3) := by decide +kernel
theorem dX4_foresee_15 : decode cX4_foresee 15 = .ok (.aload_n 0, 1) := by decide +kernel
theorem dX4_foresee_16 : decode cX4_foresee 16 = .ok (.iconst 1, 1) := by decide +kernel
theorem dX4_foresee_17 : decode cX4_foresee 17 = .ok (.invokevirtual 72, 3) := by decide +kernel
theorem dX4_foresee_20 : decode cX4_foresee 20 = .ok (.ireturn, 1) := by decide +kernel
theorem dX4_foresee_21 : decode cX4_foresee 21 = .ok (.iload_n 2, 1) := by decide +kernel
theorem dX4_foresee_22 : decode cX4_foresee 22 = .ok (.iconst 2, 1) := by decide +kernel
theorem dX4_foresee_23 : decode cX4_foresee 23 = .ok (.bipush 7, 2) := by decide +kernel
theorem dX4_foresee_25 : decode cX4_foresee 25 = .ok (.invokestatic 32, 3) := by decide +kernel
theorem dX4_foresee_28 : decode cX4_foresee 28 = .ok (.ifCond .ne 9, 3) := by decide +kernel
theorem dX4_foresee_31 : decode cX4_foresee 31 = .ok (.aload_n 0, 1) := by decide +kernel
theorem dX4_foresee_32 : decode cX4_foresee 32 = .ok (.iconst 2, 1) := by decide +kernel
theorem dX4_foresee_33 : decode cX4_foresee 33 = .ok (.invokevirtual 72, 3) := by decide +kernel
theorem dX4_foresee_36 : decode cX4_foresee 36 = .ok (.ireturn, 1) := by decide +kernel
theorem dX4_foresee_37 : decode cX4_foresee 37 = .ok (.aload_n 0, 1) := by decide +kernel
theorem dX4_foresee_38 : decode cX4_foresee 38 = .ok (.getfield 16, 3) := by decide +kernel
theorem dX4_foresee_41 : decode cX4_foresee 41 = .ok (.invokestatic 132, 3) := by decide +kernel
theorem dX4_foresee_44 : decode cX4_foresee 44 = .ok (.astore_n 3, 1) := by decide +kernel
theorem dX4_foresee_45 : decode cX4_foresee 45 = .ok (.aload_n 0, 1) := by decide +kernel
theorem dX4_foresee_46 : decode cX4_foresee 46 = .ok (.getfield 19, 3) := by decide +kernel
theorem dX4_foresee_49 : decode cX4_foresee 49 = .ok (.invokestatic 132, 3) := by decide +kernel
theorem dX4_foresee_52 : decode cX4_foresee 52 = .ok (.astore 4, 2) := by decide +kernel
theorem dX4_foresee_54 : decode cX4_foresee 54 = .ok (.aload_n 0, 1) := by decide +kernel
theorem dX4_foresee_55 : decode cX4_foresee 55 = .ok (.iload_n 1, 1) := by decide +kernel
theorem dX4_foresee_56 : decode cX4_foresee 56 = .ok (.invokevirtual 128, 3) := by decide +kernel
theorem dX4_foresee_59 : decode cX4_foresee 59 = .ok (.aload_n 0, 1) := by decide +kernel
theorem dX4_foresee_60 : decode cX4_foresee 60 = .ok (.iload_n 2, 1) := by decide +kernel
theorem dX4_foresee_61 : decode cX4_foresee 61 = .ok (.invokevirtual 120, 3) := by decide +kernel
theorem dX4_foresee_64 : decode cX4_foresee 64 = .ok (.istore 5, 2) := by decide +kernel
end
section
theorem dX4_foresee_66 : decode cX4_foresee 66 = .ok (.aload_n 0, 1) := by decide +kernel
theorem dX4_foresee_67 : decode cX4_foresee 67 = .ok (.aload_n 3, 1) := by decide +kernel
theorem dX4_foresee_68 : decode cX4_foresee 68 = .ok (.putfield 16, 3) := by decide +kernel
theorem dX4_foresee_71 : decode cX4_foresee 71 = .ok (.aload_n 0, 1) := by decide +kernel
theorem dX4_foresee_72 : decode cX4_foresee 72 = .ok (.aload 4, 2) := by decide +kernel
theorem dX4_foresee_74 : decode cX4_foresee 74 = .ok (.putfield 19, 3) := by decide +kernel
theorem dX4_foresee_77 : decode cX4_foresee 77 = .ok (.iload 5, 2) := by decide +kernel
theorem dX4_foresee_79 : decode cX4_foresee 79 = .ok (.ireturn, 1) := by decide +kernel
set_option maxRecDepth 20000 in
theorem ggX4_lasts_X4_copy : GoodIn wsX4_lasts wsX4_copy := goodIn_r _ [7, 8, 9, 10, 11, 12] (by decide +kernel) (by decide +kernel)
set_option maxRecDepth 20000 in
theorem gX4_lasts_X4_copy : GoodIn wsX4_lasts (va_wsS RX4 132 yX4_copy wsX4_copy) := goodIn_app (goodIn_of _ (by decide +kernel)) ggX4_lasts_X4_copy
set_option maxRecDepth 20000 in
theorem ggX4_lasts_X4_yearOn : GoodIn wsX4_lasts wsX4_yearOn := goodIn_r _ [16, 3, 17, 18, 19, 20, 21, 22, 6, 23, 24, 25, 26, 27, 28, 29, 30, 31, 32, 33, 34, 35, 36, 2, 37, 38, 39, 40, 41, 42, 43, 44, 45, 46, 47, 48, 49, 50, 51] (by decide +kernel) (by decide +kernel)
set_option maxRecDepth 20000 in
theorem gX4_lasts_X4_yearOn : GoodIn wsX4_lasts (wsV RX4 125 RX4 yX4_yearOn wsX4_yearOn) := goodIn_app (goodIn_of _ (by decide +kernel)) ggX4_lasts_X4_yearOn
theorem dX4_lasts_0 : decode cX4_lasts 0 = .ok (.aload_n 0, 1) := by decide +kernel
theorem dX4_lasts_1 : decode cX4_lasts 1 = .ok (.iconst 0, 1) := by decide +kernel
theorem dX4_lasts_2 : decode cX4_lasts 2 = .ok (.putfield 28, 3) := by decide +kernel
theorem dX4_lasts_5 : decode cX4_lasts 5 = .ok (.aload_n 0, 1) := by decide +kernel
theorem dX4_lasts_6 : decode cX4_lasts 6 = .ok (.getfield 16, 3) := by decide +kernel
theorem dX4_lasts_9 : decode cX4_lasts 9 = .ok (.invokestatic 132, 3) := by decide +kernel
theorem dX4_lasts_12 : decode cX4_lasts 12 = .ok (.astore_n 1, 1) := by decide +kernel
theorem dX4_lasts_13 : decode cX4_lasts 13 = .ok (.aload_n 0, 1) := by decide +kernel
theorem dX4_lasts_14 : decode cX4_lasts 14 = .ok (.getfield 19, 3) := by decide +kernel
theorem dX4_lasts_17 : decode cX4_lasts 17 = .ok (.invokestatic 132, 3) := by decide +kernel
theorem dX4_lasts_20 : decode cX4_lasts 20 = .ok (.astore_n 2, 1) := by decide +kernel
theorem dX4_lasts_21 : decode cX4_lasts 21 = .ok (.iconst 0, 1) := by decide +kernel
theorem dX4_lasts_22 : decode cX4_lasts 22 = .ok (.istore_n 3, 1) := by decide +kernel
theorem dX4_lasts_23 : decode cX4_lasts 23 = .ok (.iload_n 3, 1) := by decide +kernel
theorem dX4_lasts_24 : decode cX4_lasts 24 = .ok (.bipush 60, 2) := by decide +kernel
theorem dX4_lasts_26 : decode cX4_lasts 26 = .ok (.if_icmp .gt 22, 3) := by decide +kernel
theorem dX4_lasts_29 : decode cX4_lasts 29 = .ok (.aload_n 0, 1) := by decide +kernel
theorem dX4_lasts_30 : decode cX4_lasts 30 = .ok (.getfield 19, 3) := by decide +kernel
theorem dX4_lasts_33 : decode cX4_lasts 33 = .ok (.iconst 1, 1) := by decide +kernel
theorem dX4_lasts_34 : decode cX4_lasts 34 = .ok (.iaload, 1) := by decide +kernel
theorem dX4_lasts_35 : decode cX4_lasts 35 = .ok (.ifCond .lt 13, 3) := by decide +kernel
theorem dX4_lasts_38 : decode cX4_lasts 38 = .ok (.aload_n 0, 1) := by decide +kernel
theorem dX4_lasts_39 : decode cX4_lasts 39 = .ok (.invokevirtual 125, 3) := by decide +kernel
theorem dX4_lasts_42 : decode cX4_lasts 42 = .ok (.iinc 3 1, 3) := by decide +kernel
theorem dX4_lasts_45 : decode cX4_lasts 45 = .ok (.goto (-22), 3) := by decide +kernel
theorem dX4_lasts_48 : decode cX4_lasts 48 = .ok (.aload_n 0, 1) := by decide +kernel
theorem dX4_lasts_49 : decode cX4_lasts 49 = .ok (.aload_n 1, 1) := by decide +kernel
theorem dX4_lasts_50 : decode cX4_lasts 50 = .ok (.putfield 16, 3) := by decide +kernel
theorem dX4_lasts_53 : decode cX4_lasts 53 = .ok (.aload_n 0, 1) := by decide +kernel
theorem dX4_lasts_54 : decode cX4_lasts 54 = .ok (.aload_n 2, 1) := by decide +kernel
theorem dX4_lasts_55 : decode cX4_lasts 55 = .ok (.putfield 19, 3) := by decide +kernel
theorem dX4_lasts_58 : decode cX4_lasts 58 = .ok (.iload_n 3, 1) := by decide +kernel
theorem dX4_lasts_59 : decode cX4_lasts 59 = .ok (.bipush 60, 2) := by decide +kernel
theorem dX4_lasts_61 : decode cX4_lasts 61 = .ok (.if_icmp .le 7, 3) := by decide +kernel
theorem dX4_lasts_64 : decode cX4_lasts 64 = .ok (.iconst (-1), 1) := by decide +kernel
theorem dX4_lasts_65 : decode cX4_lasts 65 = .ok (.goto 4, 3) := by decide +kernel
theorem dX4_lasts_68 : decode cX4_lasts 68 = .ok (.iload_n 3, 1) := by decide +kernel
theorem dX4_lasts_69 : decode cX4_lasts 69 = .ok (.ireturn, 1) := by decide +kernel
set_option maxRecDepth 20000 in
theorem ggX4_even_X4_reckon : GoodIn wsX4_even wsX4_reckon := goodIn_r _ [9, 10, 11, 2, 34, 35, 36, 37, 38, 39, 40] (by decide +kernel) (by decide +kernel)
set_option maxRecDepth 20000 in
theorem gX4_even_X4_reckon : GoodIn wsX4_even (wsV RX4 25 RX4 yX4_reckon wsX4_reckon) := goodIn_app (goodIn_of _ (by decide +kernel)) ggX4_even_X4_reckon
set_option maxRecDepth 20000 in
theorem ggX4_even_X4_keptForAll : GoodIn wsX4_even wsX4_keptForAll := goodIn_r _ [15, 16, 17, 18, 19, 8, 20, 21, 22, 23, 24, 25, 26, 27, 28, 29, 30, 31, 32, 33, 10, 34, 35, 36, 37, 38, 39, 40] (by decide +kernel) (by decide +kernel)
set_option maxRecDepth 20000 in
theorem gX4_even_X4_keptForAll : GoodIn wsX4_even (wsV RX4 116 RX4 yX4_keptForAll wsX4_keptForAll) := goodIn_app (goodIn_of _ (by decide +kernel)) ggX4_even_X4_keptForAll
theorem dX4_even_0 : decode cX4_even 0 = .ok (.aload_n 0, 1) := by decide +kernel
theorem dX4_even_1 : decode cX4_even 1 = .ok (.iconst 0, 1) := by decide +kernel
theorem dX4_even_2 : decode cX4_even 2 = .ok (.putfield 28, 3) := by decide +kernel
theorem dX4_even_5 : decode cX4_even 5 = .ok (.aload_n 0, 1) := by decide +kernel
theorem dX4_even_6 : decode cX4_even 6 = .ok (.getfield 7, 3) := by decide +kernel
theorem dX4_even_9 : decode cX4_even 9 = .ok (.iconst 0, 1) := by decide +kernel
theorem dX4_even_10 : decode cX4_even 10 = .ok (.iaload, 1) := by decide +kernel
theorem dX4_even_11 : decode cX4_even 11 = .ok (.istore_n 1, 1) := by decide +kernel
theorem dX4_even_12 : decode cX4_even 12 = .ok (.iconst (-1), 1) := by decide +kernel
theorem dX4_even_13 : decode cX4_even 13 = .ok (.istore_n 2, 1) := by decide +kernel
theorem dX4_even_14 : decode cX4_even 14 = .ok (.iconst 0, 1) := by decide +kernel
theorem dX4_even_15 : decode cX4_even 15 = .ok (.istore_n 3, 1) := by decide +kernel
theorem dX4_even_16 : decode cX4_even 16 = .ok (.iload_n 3, 1) := by decide +kernel
theorem dX4_even_17 : decode cX4_even 17 = .ok (.getstatic 75, 3) := by decide +kernel
theorem dX4_even_20 : decode cX4_even 20 = .ok (.iconst 0, 1) := by decide +kernel
theorem dX4_even_21 : decode cX4_even 21 = .ok (.iaload, 1) := by decide +kernel
theorem dX4_even_22 : decode cX4_even 22 = .ok (.if_icmp .gt 40, 3) := by decide +kernel
theorem dX4_even_25 : decode cX4_even 25 = .ok (.iload_n 2, 1) := by decide +kernel
theorem dX4_even_26 : decode cX4_even 26 = .ok (.iconst (-1), 1) := by decide +kernel
theorem dX4_even_27 : decode cX4_even 27 = .ok (.if_icmp .ne 35, 3) := by decide +kernel
theorem dX4_even_30 : decode cX4_even 30 = .ok (.aload_n 0, 1) := by decide +kernel
theorem dX4_even_31 : decode cX4_even 31 = .ok (.getfield 7, 3) := by decide +kernel
theorem dX4_even_34 : decode cX4_even 34 = .ok (.iconst 0, 1) := by decide +kernel
theorem dX4_even_35 : decode cX4_even 35 = .ok (.iload_n 3, 1) := by decide +kernel
theorem dX4_even_36 : decode cX4_even 36 = .ok (.iastore, 1) := by decide +kernel
theorem dX4_even_37 : decode cX4_even 37 = .ok (.aload_n 0, 1) := by decide +kernel
theorem dX4_even_38 : decode cX4_even 38 = .ok (.invokevirtual 25, 3) := by decide +kernel
theorem dX4_even_41 : decode cX4_even 41 = .ok (.aload_n 0, 1) := by decide +kernel
theorem dX4_even_42 : decode cX4_even 42 = .ok (.getfield 19, 3) := by decide +kernel
theorem dX4_even_45 : decode cX4_even 45 = .ok (.iconst 1, 1) := by decide +kernel
theorem dX4_even_46 : decode cX4_even 46 = .ok (.iaload, 1) := by decide +kernel
theorem dX4_even_47 : decode cX4_even 47 = .ok (.aload_n 0, 1) := by decide +kernel
theorem dX4_even_48 : decode cX4_even 48 = .ok (.invokevirtual 116, 3) := by decide +kernel
theorem dX4_even_51 : decode cX4_even 51 = .ok (.if_icmp .lt 5, 3) := by decide +kernel
theorem dX4_even_54 : decode cX4_even 54 = .ok (.iload_n 3, 1) := by decide +kernel
theorem dX4_even_55 : decode cX4_even 55 = .ok (.istore_n 2, 1) := by decide +kernel
theorem dX4_even_56 : decode cX4_even 56 = .ok (.iinc 3 1, 3) := by decide +kernel
theorem dX4_even_59 : decode cX4_even 59 = .ok (.goto (-43), 3) := by decide +kernel
theorem dX4_even_62 : decode cX4_even 62 = .ok (.aload_n 0, 1) := by decide +kernel
theorem dX4_even_63 : decode cX4_even 63 = .ok (.getfield 7, 3) := by decide +kernel
theorem dX4_even_66 : decode cX4_even 66 = .ok (.iconst 0, 1) := by decide +kernel
theorem dX4_even_67 : decode cX4_even 67 = .ok (.iload_n 1, 1) := by decide +kernel
theorem dX4_even_68 : decode cX4_even 68 = .ok (.iastore, 1) := by decide +kernel
theorem dX4_even_69 : decode cX4_even 69 = .ok (.aload_n 0, 1) := by decide +kernel
theorem dX4_even_70 : decode cX4_even 70 = .ok (.invokevirtual 25, 3) := by decide +kernel
theorem dX4_even_73 : decode cX4_even 73 = .ok (.iload_n 2, 1) := by decide +kernel
theorem dX4_even_74 : decode cX4_even 74 = .ok (.ireturn, 1) := by decide +kernel
set_option maxRecDepth 20000 in
theorem ggX4_affords_X4_isAge : GoodIn wsX4_affords wsX4_isAge := goodIn_r _ [6, 7, 8, 5, 9] (by decide +kernel) (by decide +kernel)
set_option maxRecDepth 20000 in
theorem gX4_affords_X4_isAge : GoodIn wsX4_affords (va_wsS RX4 69 yX4_isAge wsX4_isAge) := goodIn_app (goodIn_of _ (by decide +kernel)) ggX4_affords_X4_isAge
set_option maxRecDepth 20000 in
theorem ggX4_affords_X4_isLate : GoodIn wsX4_affords wsX4_isLate := goodIn_r _ [12, 7, 8, 5, 9] (by decide +kernel) (by decide +kernel)
set_option maxRecDepth 20000 in
theorem gX4_affords_X4_isLate : GoodIn wsX4_affords (va_wsS RX4 81 yX4_isLate wsX4_isLate) := goodIn_app (goodIn_of _ (by decide +kernel)) ggX4_affords_X4_isLate
set_option maxRecDepth 20000 in
theorem ggX4_affords_X4_isIn : GoodIn wsX4_affords wsX4_isIn := goodIn_r _ [9] (by decide +kernel) (by decide +kernel)
set_option maxRecDepth 20000 in
theorem gX4_affords_X4_isIn : GoodIn wsX4_affords (va_wsS RX4 32 yX4_isIn wsX4_isIn) := goodIn_app (goodIn_of _ (by decide +kernel)) ggX4_affords_X4_isIn
set_option maxRecDepth 20000 in
theorem ggX4_affords_X4_fail : GoodIn wsX4_affords wsX4_fail := goodIn_r _ [16, 1, 31, 32, 33, 34, 35, 36, 37] (by decide +kernel) (by decide +kernel)
set_option maxRecDepth 20000 in
theorem gX4_affords_X4_fail : GoodIn wsX4_affords (wsV RX4 72 RX4 yX4_fail wsX4_fail) := goodIn_app (goodIn_of _ (by decide +kernel)) ggX4_affords_X4_fail
set_option maxRecDepth 20000 in
theorem ggX4_affords_X4_worthOf : GoodIn wsX4_affords wsX4_worthOf := goodIn_r _ [20, 21, 31, 32, 33, 34, 35, 36, 37] (by decide +kernel) (by decide +kernel)
set_option maxRecDepth 20000 in
theorem gX4_affords_X4_worthOf : GoodIn wsX4_affords (wsV RX4 43 RX4 yX4_worthOf wsX4_worthOf) := goodIn_app (goodIn_of _ (by decide +kernel)) ggX4_affords_X4_worthOf
set_option maxRecDepth 20000 in
theorem ggX4_affords_X4_priceOf : GoodIn wsX4_affords wsX4_priceOf := goodIn_r _ [25, 26, 27, 28, 29, 30, 17, 18, 19, 5, 20, 21, 31, 32, 33, 34, 35, 36, 37] (by decide +kernel) (by decide +kernel)
set_option maxRecDepth 20000 in
theorem gX4_affords_X4_priceOf : GoodIn wsX4_affords (wsV RX4 87 RX4 yX4_priceOf wsX4_priceOf) := goodIn_app (goodIn_of _ (by decide +kernel)) ggX4_affords_X4_priceOf
theorem dX4_affords_0 : decode cX4_affords 0 = .ok (.aload_n 0, 1) := by decide +kernel
theorem dX4_affords_1 : decode cX4_affords 1 = .ok (.iconst 0, 1) := by decide +kernel
theorem dX4_affords_2 : decode cX4_affords 2 = .ok (.putfield 28, 3) := by decide +kernel
theorem dX4_affords_5 : decode cX4_affords 5 = .ok (.iload_n 1, 1) := by decide +kernel
theorem dX4_affords_6 : decode cX4_affords 6 = .ok (.invokestatic 69, 3) := by decide +kernel
theorem dX4_affords_9 : decode cX4_affords 9 = .ok (.ifCond .eq 20, 3) := by decide +kernel
theorem dX4_affords_12 : decode cX4_affords 12 = .ok (.iload_n 2, 1) := by decide +kernel
theorem dX4_affords_13 : decode cX4_affords 13 = .ok (.invokestatic 81, 3) := by decide +kernel
theorem dX4_affords_16 : decode cX4_affords 16 = .ok (.ifCond .eq 13, 3) := by decide +kernel
theorem dX4_affords_19 : decode cX4_affords 19 = .ok (.iload_n 3, 1) := by decide +kernel
theorem dX4_affords_20 : decode cX4_affords 20 = .ok (.iconst 1, 1) := by decide +kernel
theorem dX4_affords_21 : decode cX4_affords 21 = .ok (.ldc 112, 2) := by decide +kernel
theorem dX4_affords_23 : decode cX4_affords 23 = .ok (.invokestatic 32, 3) := by decide +kernel
theorem dX4_affords_26 : decode cX4_affords 26 = .ok (.ifCond .ne 9, 3) := by decide +kernel
theorem dX4_affords_29 : decode cX4_affords 29 = .ok (.aload_n 0, 1) := by decide +kernel
theorem dX4_affords_30 : decode cX4_affords 30 = .ok (.iconst 1, 1) := by decide +kernel
theorem dX4_affords_31 : decode cX4_affords 31 = .ok (.invokevirtual 72, 3) := by decide +kernel
theorem dX4_affords_34 : decode cX4_affords 34 = .ok (.ireturn, 1) := by decide +kernel
theorem dX4_affords_35 : decode cX4_affords 35 = .ok (.aload_n 0, 1) := by decide +kernel
theorem dX4_affords_36 : decode cX4_affords 36 = .ok (.iload_n 1, 1) := by decide +kernel
theorem dX4_affords_37 : decode cX4_affords 37 = .ok (.iload_n 2, 1) := by decide +kernel
theorem dX4_affords_38 : decode cX4_affords 38 = .ok (.invokevirtual 43, 3) := by decide +kernel
theorem dX4_affords_41 : decode cX4_affords 41 = .ok (.ifCond .ne 5, 3) := by decide +kernel
theorem dX4_affords_44 : decode cX4_affords 44 = .ok (.iconst 0, 1) := by decide +kernel
theorem dX4_affords_45 : decode cX4_affords 45 = .ok (.ireturn, 1) := by decide +kernel
theorem dX4_affords_46 : decode cX4_affords 46 = .ok (.sipush 999, 3) := by decide +kernel
theorem dX4_affords_49 : decode cX4_affords 49 = .ok (.istore 4, 2) := by decide +kernel
theorem dX4_affords_51 : decode cX4_affords 51 = .ok (.iload 4, 2) := by decide +kernel
theorem dX4_affords_53 : decode cX4_affords 53 = .ok (.ifCond .le 21, 3) := by decide +kernel
theorem dX4_affords_56 : decode cX4_affords 56 = .ok (.aload_n 0, 1) := by decide +kernel
theorem dX4_affords_57 : decode cX4_affords 57 = .ok (.iload_n 1, 1) := by decide +kernel
theorem dX4_affords_58 : decode cX4_affords 58 = .ok (.iload 4, 2) := by decide +kernel
theorem dX4_affords_60 : decode cX4_affords 60 = .ok (.iload_n 2, 1) := by decide +kernel
theorem dX4_affords_61 : decode cX4_affords 61 = .ok (.invokevirtual 87, 3) := by decide +kernel
theorem dX4_affords_64 : decode cX4_affords 64 = .ok (.iload_n 3, 1) := by decide +kernel
theorem dX4_affords_65 : decode cX4_affords 65 = .ok (.if_icmp .le 9, 3) := by decide +kernel
theorem dX4_affords_68 : decode cX4_affords 68 = .ok (.iinc 4 (-1), 3) := by decide +kernel
theorem dX4_affords_71 : decode cX4_affords 71 = .ok (.goto (-20), 3) := by decide +kernel
theorem dX4_affords_74 : decode cX4_affords 74 = .ok (.iload 4, 2) := by decide +kernel
theorem dX4_affords_76 : decode cX4_affords 76 = .ok (.ireturn, 1) := by decide +kernel
set_option maxRecDepth 20000 in
theorem ggX4_mean_X4_isAlive : GoodIn wsX4_mean wsX4_isAlive := goodIn_r _ [7, 8, 9, 10, 6, 11, 12, 31, 32, 33, 34, 35, 36, 37] (by decide +kernel) (by decide +kernel)
set_option maxRecDepth 20000 in
theorem gX4_mean_X4_isAlive : GoodIn wsX4_mean (wsV RX4 51 RX4 yX4_isAlive wsX4_isAlive) := goodIn_app (goodIn_of _ (by decide +kernel)) ggX4_mean_X4_isAlive
set_option maxRecDepth 20000 in
theorem ggX4_mean_X4_wi : GoodIn wsX4_mean wsX4_wi := goodIn_r _ [11, 12, 31, 32, 33, 34, 35, 36, 37] (by decide +kernel) (by decide +kernel)
set_option maxRecDepth 20000 in
theorem gX4_mean_X4_wi : GoodIn wsX4_mean (wsV RX4 39 RX4 yX4_wi wsX4_wi) := goodIn_app (goodIn_of _ (by decide +kernel)) ggX4_mean_X4_wi
set_option maxRecDepth 20000 in
theorem ggX4_mean_X4_counted : GoodIn wsX4_mean wsX4_counted := goodIn_r _ [16, 17, 2, 3, 4, 5, 6, 7, 8, 9, 10, 11, 12, 18, 19, 20, 21, 22, 23, 24, 25, 26, 27, 28, 29, 30, 31, 32, 33, 34, 35, 36, 37] (by decide +kernel) (by decide +kernel)
set_option maxRecDepth 20000 in
theorem gX4_mean_X4_counted : GoodIn wsX4_mean (wsV RX4 120 RX4 yX4_counted wsX4_counted) := goodIn_app (goodIn_of _ (by decide +kernel)) ggX4_mean_X4_counted
theorem dX4_mean_0 : decode cX4_mean 0 = .ok (.aload_n 0, 1) := by decide +kernel
theorem dX4_mean_1 : decode cX4_mean 1 = .ok (.iconst 0, 1) := by decide +kernel
theorem dX4_mean_2 : decode cX4_mean 2 = .ok (.putfield 28, 3) := by decide +kernel
theorem dX4_mean_5 : decode cX4_mean 5 = .ok (.iconst 0, 1) := by decide +kernel
theorem dX4_mean_6 : decode cX4_mean 6 = .ok (.istore_n 1, 1) := by decide +kernel
theorem dX4_mean_7 : decode cX4_mean 7 = .ok (.iconst 0, 1) := by decide +kernel
theorem dX4_mean_8 : decode cX4_mean 8 = .ok (.istore_n 2, 1) := by decide +kernel
theorem dX4_mean_9 : decode cX4_mean 9 = .ok (.iload_n 2, 1) := by decide +kernel
theorem dX4_mean_10 : decode cX4_mean 10 = .ok (.aload_n 0, 1) := by decide +kernel
theorem dX4_mean_11 : decode cX4_mean 11 = .ok (.getfield 36, 3) := by decide +kernel
theorem dX4_mean_14 : decode cX4_mean 14 = .ok (.if_icmp .ge 30, 3) := by decide +kernel
theorem dX4_mean_17 : decode cX4_mean 17 = .ok (.iload_n 1, 1) := by decide +kernel
theorem dX4_mean_18 : decode cX4_mean 18 = .ok (.aload_n 0, 1) := by decide +kernel
theorem dX4_mean_19 : decode cX4_mean 19 = .ok (.iload_n 2, 1) := by decide +kernel
theorem dX4_mean_20 : decode cX4_mean 20 = .ok (.invokevirtual 51, 3) := by decide +kernel
theorem dX4_mean_23 : decode cX4_mean 23 = .ok (.ifCond .eq 12, 3) := by decide +kernel
theorem dX4_mean_26 : decode cX4_mean 26 = .ok (.aload_n 0, 1) := by decide +kernel
theorem dX4_mean_27 : decode cX4_mean 27 = .ok (.iload_n 2, 1) := by decide +kernel
theorem dX4_mean_28 : decode cX4_mean 28 = .ok (.iconst 0, 1) := by decide +kernel
theorem dX4_mean_29 : decode cX4_mean 29 = .ok (.invokevirtual 39, 3) := by decide +kernel
theorem dX4_mean_32 : decode cX4_mean 32 = .ok (.goto 4, 3) := by decide +kernel
theorem dX4_mean_35 : decode cX4_mean 35 = .ok (.iconst 0, 1) := by decide +kernel
theorem dX4_mean_36 : decode cX4_mean 36 = .ok (.iadd, 1) := by decide +kernel
theorem dX4_mean_37 : decode cX4_mean 37 = .ok (.istore_n 1, 1) := by decide +kernel
theorem dX4_mean_38 : decode cX4_mean 38 = .ok (.iinc 2 1, 3) := by decide +kernel
theorem dX4_mean_41 : decode cX4_mean 41 = .ok (.goto (-32), 3) := by decide +kernel
theorem dX4_mean_44 : decode cX4_mean 44 = .ok (.aload_n 0, 1) := by decide +kernel
theorem dX4_mean_45 : decode cX4_mean 45 = .ok (.iconst 2, 1) := by decide +kernel
theorem dX4_mean_46 : decode cX4_mean 46 = .ok (.invokevirtual 120, 3) := by decide +kernel
theorem dX4_mean_49 : decode cX4_mean 49 = .ok (.istore_n 2, 1) := by decide +kernel
theorem dX4_mean_50 : decode cX4_mean 50 = .ok (.iload_n 2, 1) := by decide +kernel
theorem dX4_mean_51 : decode cX4_mean 51 = .ok (.ifCond .ne 7, 3) := by decide +kernel
theorem dX4_mean_54 : decode cX4_mean 54 = .ok (.dconst 0, 1) := by decide +kernel
theorem dX4_mean_55 : decode cX4_mean 55 = .ok (.goto 8, 3) := by decide +kernel
theorem dX4_mean_58 : decode cX4_mean 58 = .ok (.iload_n 1, 1) := by decide +kernel
theorem dX4_mean_59 : decode cX4_mean 59 = .ok (.i2d, 1) := by decide +kernel
theorem dX4_mean_60 : decode cX4_mean 60 = .ok (.iload_n 2, 1) := by decide +kernel
theorem dX4_mean_61 : decode cX4_mean 61 = .ok (.i2d, 1) := by decide +kernel
theorem dX4_mean_62 : decode cX4_mean 62 = .ok (.ddiv, 1) := by decide +kernel
theorem dX4_mean_63 : decode cX4_mean 63 = .ok (.dreturn, 1) := by decide +kernel
set_option maxRecDepth 20000 in
theorem ggX4_digest_X4_counted : GoodIn wsX4_digest wsX4_counted := goodIn_r _ [11, 12, 6, 13, 14, 15, 10, 16, 17, 18, 19, 20, 21, 22, 23, 24, 25, 26, 27, 28, 29, 30, 31, 32, 33, 34, 43, 44, 45, 46, 47, 48, 49] (by decide +kernel) (by decide +kernel)
set_option maxRecDepth 20000 in
theorem gX4_digest_X4_counted : GoodIn wsX4_digest (wsV RX4 120 RX4 yX4_counted wsX4_counted) := goodIn_app (goodIn_of _ (by decide +kernel)) ggX4_digest_X4_counted
set_option maxRecDepth 20000 in
theorem ggX4_digest_X4_widowTold : GoodIn wsX4_digest wsX4_widowTold := goodIn_r _ [38, 26, 27, 28, 10, 29, 13, 14, 15, 16, 17, 18, 19, 20, 21, 30, 31, 32, 33, 34, 39, 40, 41, 42, 4, 43, 44, 45, 46, 47, 48, 49] (by decide +kernel) (by decide +kernel)
set_option maxRecDepth 20000 in
theorem gX4_digest_X4_widowTold : GoodIn wsX4_digest (wsV RX4 113 RX4 yX4_widowTold wsX4_widowTold) := goodIn_app (goodIn_of _ (by decide +kernel)) ggX4_digest_X4_widowTold
theorem dX4_digest_0 : decode cX4_digest 0 = .ok (.aload_n 0, 1) := by decide +kernel
theorem dX4_digest_1 : decode cX4_digest 1 = .ok (.iconst 0, 1) := by decide +kernel
theorem dX4_digest_2 : decode cX4_digest 2 = .ok (.putfield 28, 3) := by decide +kernel
theorem dX4_digest_5 : decode cX4_digest 5 = .ok (.ldc2_w 136, 3) := by decide +kernel
theorem dX4_digest_8 : decode cX4_digest 8 = .ok (.lstore_n 1, 1) := by decide +kernel
theorem dX4_digest_9 : decode cX4_digest 9 = .ok (.iconst 0, 1) := by decide +kernel
theorem dX4_digest_10 : decode cX4_digest 10 = .ok (.istore_n 3, 1) := by decide +kernel
theorem dX4_digest_11 : decode cX4_digest 11 = .ok (.iload_n 3, 1) := by decide +kernel
theorem dX4_digest_12 : decode cX4_digest 12 = .ok (.bipush 9, 2) := by decide +kernel
theorem dX4_digest_14 : decode cX4_digest 14 = .ok (.if_icmp .ge 22, 3) := by decide +kernel
theorem dX4_digest_17 : decode cX4_digest 17 = .ok (.lload_n 1, 1) := by decide +kernel
theorem dX4_digest_18 : decode cX4_digest 18 = .ok (.ldc2_w 138, 3) := by decide +kernel
theorem dX4_digest_21 : decode cX4_digest 21 = .ok (.lmul, 1) := by decide +kernel
theorem dX4_digest_22 : decode cX4_digest 22 = .ok (.aload_n 0, 1) := by decide +kernel
theorem dX4_digest_23 : decode cX4_digest 23 = .ok (.iload_n 3, 1) := by decide +kernel
theorem dX4_digest_24 : decode cX4_digest 24 = .ok (.invokevirtual 120, 3) := by decide +kernel
theorem dX4_digest_27 : decode cX4_digest 27 = .ok (.i2l, 1) := by decide +kernel
theorem dX4_digest_28 : decode cX4_digest 28 = .ok (.ladd, 1) := by decide +kernel
theorem dX4_digest_29 : decode cX4_digest 29 = .ok (.lstore_n 1, 1) := by decide +kernel
theorem dX4_digest_30 : decode cX4_digest 30 = .ok (.iinc 3 1, 3) := by decide +kernel
theorem dX4_digest_33 : decode cX4_digest 33 = .ok (.goto (-22), 3) := by decide +kernel
theorem dX4_digest_36 : decode cX4_digest 36 = .ok (.aload_n 0, 1) := by decide +kernel
theorem dX4_digest_37 : decode cX4_digest 37 = .ok (.getfield 7, 3) := by decide +kernel
theorem dX4_digest_40 : decode cX4_digest 40 = .ok (.astore_n 3, 1) := by decide +kernel
theorem dX4_digest_41 : decode cX4_digest 41 = .ok (.aload_n 3, 1) := by decide +kernel
theorem dX4_digest_42 : decode cX4_digest 42 = .ok (.arraylength, 1) := by decide +kernel
theorem dX4_digest_43 : decode cX4_digest 43 = .ok (.istore 4, 2) := by decide +kernel
theorem dX4_digest_45 : decode cX4_digest 45 = .ok (.iconst 0, 1) := by decide +kernel
theorem dX4_digest_46 : decode cX4_digest 46 = .ok (.istore 5, 2) := by decide +kernel
theorem dX4_digest_48 : decode cX4_digest 48 = .ok (.iload 5, 2) := by decide +kernel
theorem dX4_digest_50 : decode cX4_digest 50 = .ok (.iload 4, 2) := by decide +kernel
theorem dX4_digest_52 : decode cX4_digest 52 = .ok (.if_icmp .ge 25, 3) := by decide +kernel
theorem dX4_digest_55 : decode cX4_digest 55 = .ok (.aload_n 3, 1) := by decide +kernel
theorem dX4_digest_56 : decode cX4_digest 56 = .ok (.iload 5, 2) := by decide +kernel
theorem dX4_digest_58 : decode cX4_digest 58 = .ok (.iaload, 1) := by decide +kernel
theorem dX4_digest_59 : decode cX4_digest 59 = .ok (.istore 6, 2) := by decide +kernel
theorem dX4_digest_61 : decode cX4_digest 61 = .ok (.lload_n 1, 1) := by decide +kernel
theorem dX4_digest_62 : decode cX4_digest 62 = .ok (.ldc2_w 138, 3) := by decide +kernel
theorem dX4_digest_65 : decode cX4_digest 65 = .ok (.lmul, 1) := by decide +kernel
theorem dX4_digest_66 : decode cX4_digest 66 = .ok (.iload 6, 2) := by decide +kernel
theorem dX4_digest_68 : decode cX4_digest 68 = .ok (.i2l, 1) := by decide +kernel
theorem dX4_digest_69 : decode cX4_digest 69 = .ok (.ladd, 1) := by decide +kernel
theorem dX4_digest_70 : decode cX4_digest 70 = .ok (.lstore_n 1, 1) := by decide +kernel
theorem dX4_digest_71 : decode cX4_digest 71 = .ok (.iinc 5 1, 3) := by decide +kernel
theorem dX4_digest_74 : decode cX4_digest 74 = .ok (.goto (-26), 3) := by decide +kernel
theorem dX4_digest_77 : decode cX4_digest 77 = .ok (.aload_n 0, 1) := by decide +kernel
theorem dX4_digest_78 : decode cX4_digest 78 = .ok (.getfield 13, 3) := by decide +kernel
theorem dX4_digest_81 : decode cX4_digest 81 = .ok (.astore_n 3, 1) := by decide +kernel
theorem dX4_digest_82 : decode cX4_digest 82 = .ok (.aload_n 3, 1) := by decide +kernel
theorem dX4_digest_83 : decode cX4_digest 83 = .ok (.arraylength, 1) := by decide +kernel
theorem dX4_digest_84 : decode cX4_digest 84 = .ok (.istore 4, 2) := by decide +kernel
theorem dX4_digest_86 : decode cX4_digest 86 = .ok (.iconst 0, 1) := by decide +kernel
theorem dX4_digest_87 : decode cX4_digest 87 = .ok (.istore 5, 2) := by decide +kernel
theorem dX4_digest_89 : decode cX4_digest 89 = .ok (.iload 5, 2) := by decide +kernel
theorem dX4_digest_91 : decode cX4_digest 91 = .ok (.iload 4, 2) := by decide +kernel
theorem dX4_digest_93 : decode cX4_digest 93 = .ok (.if_icmp .ge 25, 3) := by decide +kernel
theorem dX4_digest_96 : decode cX4_digest 96 = .ok (.aload_n 3, 1) := by decide +kernel
theorem dX4_digest_97 : decode cX4_digest 97 = .ok (.iload 5, 2) := by decide +kernel
theorem dX4_digest_99 : decode cX4_digest 99 = .ok (.iaload, 1) := by decide +kernel
theorem dX4_digest_100 : decode cX4_digest 100 = .ok (.istore 6, 2) := by decide +kernel
theorem dX4_digest_102 : decode cX4_digest 102 = .ok (.lload_n 1, 1) := by decide +kernel
theorem dX4_digest_103 : decode cX4_digest 103 = .ok (.ldc2_w 138, 3) := by decide +kernel
theorem dX4_digest_106 : decode cX4_digest 106 = .ok (.lmul, 1) := by decide +kernel
theorem dX4_digest_107 : decode cX4_digest 107 = .ok (.iload 6, 2) := by decide +kernel
theorem dX4_digest_109 : decode cX4_digest 109 = .ok (.i2l, 1) := by decide +kernel
theorem dX4_digest_110 : decode cX4_digest 110 = .ok (.ladd, 1) := by decide +kernel
theorem dX4_digest_111 : decode cX4_digest 111 = .ok (.lstore_n 1, 1) := by decide +kernel
theorem dX4_digest_112 : decode cX4_digest 112 = .ok (.iinc 5 1, 3) := by decide +kernel
theorem dX4_digest_115 : decode cX4_digest 115 = .ok (.goto (-26), 3) := by decide +kernel
theorem dX4_digest_118 : decode cX4_digest 118 = .ok (.iconst 0, 1) := by decide +kernel
theorem dX4_digest_119 : decode cX4_digest 119 = .ok (.istore_n 3, 1) := by decide +kernel
theorem dX4_digest_120 : decode cX4_digest 120 = .ok (.iload_n 3, 1) := by decide +kernel
theorem dX4_digest_121 : decode cX4_digest 121 = .ok (.aload_n 0, 1) := by decide +kernel
theorem dX4_digest_122 : decode cX4_digest 122 = .ok (.getfield 36, 3) := by decide +kernel
theorem dX4_digest_125 : decode cX4_digest 125 = .ok (.if_icmp .ge 40, 3) := by decide +kernel
theorem dX4_digest_128 : decode cX4_digest 128 = .ok (.iconst 0, 1) := by decide +kernel
theorem dX4_digest_129 : decode cX4_digest 129 = .ok (.istore 4, 2) := by decide +kernel
theorem dX4_digest_131 : decode cX4_digest 131 = .ok (.iload 4, 2) := by decide +kernel
theorem dX4_digest_133 : decode cX4_digest 133 = .ok (.bipush 9, 2) := by decide +kernel
theorem dX4_digest_135 : decode cX4_digest 135 = .ok (.if_icmp .ge 24, 3) := by decide +kernel
theorem dX4_digest_138 : decode cX4_digest 138 = .ok (.lload_n 1, 1) := by decide +kernel
theorem dX4_digest_139 : decode cX4_digest 139 = .ok (.ldc2_w 138, 3) := by decide +kernel
theorem dX4_digest_142 : decode cX4_digest 142 = .ok (.lmul, 1) := by decide +kernel
theorem dX4_digest_143 : decode cX4_digest 143 = .ok (.aload_n 0, 1) := by decide +kernel
theorem dX4_digest_144 : decode cX4_digest 144 = .ok (.iload_n 3, 1) := by decide +kernel
theorem dX4_digest_145 : decode cX4_digest 145 = .ok (.iload 4, 2) := by decide +kernel
theorem dX4_digest_147 : decode cX4_digest 147 = .ok (.invokevirtual 113, 3) := by decide +kernel
theorem dX4_digest_150 : decode cX4_digest 150 = .ok (.i2l, 1) := by decide +kernel
theorem dX4_digest_151 : decode cX4_digest 151 = .ok (.ladd, 1) := by decide +kernel
theorem dX4_digest_152 : decode cX4_digest 152 = .ok (.lstore_n 1, 1) := by decide +kernel
theorem dX4_digest_153 : decode cX4_digest 153 = .ok (.iinc 4 1, 3) := by decide +kernel
theorem dX4_digest_156 : decode cX4_digest 156 = .ok (.goto (-25), 3) := by decide +kernel
theorem dX4_digest_159 : decode cX4_digest 159 = .ok (.iinc 3 1, 3) := by decide +kernel
theorem dX4_digest_162 : decode cX4_digest 162 = .ok (.goto (-42), 3) := by decide +kernel
theorem dX4_digest_165 : decode cX4_digest 165 = .ok (.lload_n 1, 1) := by decide +kernel
theorem dX4_digest_166 : decode cX4_digest 166 = .ok (.lreturn, 1) := by decide +kernel
theorem dJ9_max_7cf53_0 : decode cJ9_max_7cf53 0 = .ok (.iload_n 0, 1) := by decide +kernel
theorem dJ9_max_7cf53_1 : decode cJ9_max_7cf53 1 = .ok (.iload_n 1, 1) := by decide +kernel
theorem dJ9_max_7cf53_2 : decode cJ9_max_7cf53 2 = .ok (.if_icmp .lt 7, 3) := by decide +kernel
theorem dJ9_max_7cf53_5 : decode cJ9_max_7cf53 5 = .ok (.iload_n 0, 1) := by decide +kernel
theorem dJ9_max_7cf53_6 : decode cJ9_max_7cf53 6 = .ok (.goto 4, 3) := by decide +kernel
theorem dJ9_max_7cf53_9 : decode cJ9_max_7cf53 9 = .ok (.iload_n 1, 1) := by decide +kernel
theorem dJ9_max_7cf53_10 : decode cJ9_max_7cf53 10 = .ok (.ireturn, 1) := by decide +kernel
theorem dJ9_min_f86c9_0 : decode cJ9_min_f86c9 0 = .ok (.lload_n 0, 1) := by decide +kernel
theorem dJ9_min_f86c9_1 : decode cJ9_min_f86c9 1 = .ok (.lload_n 2, 1) := by decide +kernel
theorem dJ9_min_f86c9_2 : decode cJ9_min_f86c9 2 = .ok (.lcmp, 1) := by decide +kernel
theorem dJ9_min_f86c9_3 : decode cJ9_min_f86c9 3 = .ok (.ifCond .gt 7, 3) := by decide +kernel
theorem dJ9_min_f86c9_6 : decode cJ9_min_f86c9 6 = .ok (.lload_n 0, 1) := by decide +kernel
theorem dJ9_min_f86c9_7 : decode cJ9_min_f86c9 7 = .ok (.goto 4, 3) := by decide +kernel
theorem dJ9_min_f86c9_10 : decode cJ9_min_f86c9 10 = .ok (.lload_n 2, 1) := by decide +kernel
theorem dJ9_min_f86c9_11 : decode cJ9_min_f86c9 11 = .ok (.lreturn, 1) := by decide +kernel
set_option maxRecDepth 20000 in
theorem ggL_setDeaths_X3_setDeaths : GoodIn wsL_setDeaths wsX3_setDeaths := goodIn_ca (goodIn_ca (goodIn_r _ [7, 8, 9, 10, 11, 12, 13, 14, 6, 15, 16, 17, 18, 19, 20, 21, 22, 23, 24, 25, 26, 27, 28, 29, 30] (by decide +kernel) (by decide +kernel)) (goodIn_sub (fun _ h => List.mem_cons_of_mem _ (List.mem_append_left _ (List.mem_append_right _ h))) (by decide +kernel))) (goodIn_sub (fun _ h => List.mem_cons_of_mem _ (List.mem_append_right _ h)) (by decide +kernel))
set_option maxRecDepth 20000 in
theorem gL_setDeaths_X3_setDeaths : GoodIn wsL_setDeaths (wsV RL 7 RX3 yX3_setDeaths wsX3_setDeaths) := goodIn_app (goodIn_of _ (by decide +kernel)) ggL_setDeaths_X3_setDeaths
theorem dL_setDeaths_0 : decode cL_setDeaths 0 = .ok (.aload_n 3, 1) := by decide +kernel
theorem dL_setDeaths_1 : decode cL_setDeaths 1 = .ok (.iconst 0, 1) := by decide +kernel
theorem dL_setDeaths_2 : decode cL_setDeaths 2 = .ok (.aload_n 0, 1) := by decide +kernel
theorem dL_setDeaths_3 : decode cL_setDeaths 3 = .ok (.iload_n 1, 1) := by decide +kernel
theorem dL_setDeaths_4 : decode cL_setDeaths 4 = .ok (.iload_n 2, 1) := by decide +kernel
theorem dL_setDeaths_5 : decode cL_setDeaths 5 = .ok (.invokevirtual 7, 3) := by decide +kernel
theorem dL_setDeaths_8 : decode cL_setDeaths 8 = .ok (.i2l, 1) := by decide +kernel
theorem dL_setDeaths_9 : decode cL_setDeaths 9 = .ok (.lastore, 1) := by decide +kernel
theorem dL_setDeaths_10 : decode cL_setDeaths 10 = .ok (.goto 11, 3) := by decide +kernel
theorem dL_setDeaths_13 : decode cL_setDeaths 13 = .ok (.astore 4, 2) := by decide +kernel
theorem dL_setDeaths_15 : decode cL_setDeaths 15 = .ok (.iconst 1, 1) := by decide +kernel
theorem dL_setDeaths_16 : decode cL_setDeaths 16 = .ok (.ireturn, 1) := by decide +kernel
theorem dL_setDeaths_17 : decode cL_setDeaths 17 = .ok (.astore 4, 2) := by decide +kernel
theorem dL_setDeaths_19 : decode cL_setDeaths 19 = .ok (.iconst 2, 1) := by decide +kernel
theorem dL_setDeaths_20 : decode cL_setDeaths 20 = .ok (.ireturn, 1) := by decide +kernel
theorem dL_setDeaths_21 : decode cL_setDeaths 21 = .ok (.iconst 0, 1) := by decide +kernel
theorem dL_setDeaths_22 : decode cL_setDeaths 22 = .ok (.ireturn, 1) := by decide +kernel
set_option maxRecDepth 20000 in
theorem ggL_setRate_X3_setRate : GoodIn wsL_setRate wsX3_setRate := goodIn_ca (goodIn_ca (goodIn_r _ [7, 8, 9, 10, 11, 12, 13, 14, 15, 16, 17, 18, 19, 20, 21, 22, 23, 24, 25, 26, 27] (by decide +kernel) (by decide +kernel)) (goodIn_sub (fun _ h => List.mem_cons_of_mem _ (List.mem_append_left _ (List.mem_append_right _ h))) (by decide +kernel))) (goodIn_sub (fun _ h => List.mem_cons_of_mem _ (List.mem_append_right _ h)) (by decide +kernel))
set_option maxRecDepth 20000 in
theorem gL_setRate_X3_setRate : GoodIn wsL_setRate (wsV RL 17 RX3 yX3_setRate wsX3_setRate) := goodIn_app (goodIn_of _ (by decide +kernel)) ggL_setRate_X3_setRate
theorem dL_setRate_0 : decode cL_setRate 0 = .ok (.aload_n 3, 1) := by decide +kernel
theorem dL_setRate_1 : decode cL_setRate 1 = .ok (.iconst 0, 1) := by decide +kernel
theorem dL_setRate_2 : decode cL_setRate 2 = .ok (.aload_n 0, 1) := by decide +kernel
theorem dL_setRate_3 : decode cL_setRate 3 = .ok (.iload_n 1, 1) := by decide +kernel
theorem dL_setRate_4 : decode cL_setRate 4 = .ok (.iload_n 2, 1) := by decide +kernel
theorem dL_setRate_5 : decode cL_setRate 5 = .ok (.invokevirtual 17, 3) := by decide +kernel
theorem dL_setRate_8 : decode cL_setRate 8 = .ok (.i2l, 1) := by decide +kernel
theorem dL_setRate_9 : decode cL_setRate 9 = .ok (.lastore, 1) := by decide +kernel
theorem dL_setRate_10 : decode cL_setRate 10 = .ok (.goto 11, 3) := by decide +kernel
theorem dL_setRate_13 : decode cL_setRate 13 = .ok (.astore 4, 2) := by decide +kernel
theorem dL_setRate_15 : decode cL_setRate 15 = .ok (.iconst 1, 1) := by decide +kernel
theorem dL_setRate_16 : decode cL_setRate 16 = .ok (.ireturn, 1) := by decide +kernel
theorem dL_setRate_17 : decode cL_setRate 17 = .ok (.astore 4, 2) := by decide +kernel
theorem dL_setRate_19 : decode cL_setRate 19 = .ok (.iconst 2, 1) := by decide +kernel
theorem dL_setRate_20 : decode cL_setRate 20 = .ok (.ireturn, 1) := by decide +kernel
theorem dL_setRate_21 : decode cL_setRate 21 = .ok (.iconst 0, 1) := by decide +kernel
theorem dL_setRate_22 : decode cL_setRate 22 = .ok (.ireturn, 1) := by decide +kernel
set_option maxRecDepth 20000 in
theorem ggL_buy_X3_buy : GoodIn wsL_buy wsX3_buy := goodIn_ca (goodIn_ca (goodIn_r _ [7, 8, 9, 10, 11, 12, 13, 6, 14, 15, 16, 17, 18, 19, 20, 21, 22, 23, 24, 25, 26, 27, 28, 29, 30, 31, 32, 33, 34, 35, 36, 37, 38, 39, 40, 41, 42, 43, 44, 45, 46, 47, 48, 49, 50, 51, 52, 53, 54, 55, 56, 57, 58, 59, 60, 61, 62, 63, 64, 65, 66, 67, 68, 69, 70, 71, 72, 73, 74, 75, 76, 77, 78, 79, 80, 81, 82, 83, 84, 85, 86, 87, 88, 89, 90, 91, 92, 93, 94, 95, 96, 97] (by decide +kernel) (by decide +kernel)) (goodIn_sub (fun _ h => List.mem_cons_of_mem _ (List.mem_append_left _ (List.mem_append_right _ h))) (by decide +kernel))) (goodIn_sub (fun _ h => List.mem_cons_of_mem _ (List.mem_append_right _ h)) (by decide +kernel))
set_option maxRecDepth 20000 in
theorem gL_buy_X3_buy : GoodIn wsL_buy (wsV RL 20 RX3 yX3_buy wsX3_buy) := goodIn_app (goodIn_of _ (by decide +kernel)) ggL_buy_X3_buy
theorem dL_buy_0 : decode cL_buy 0 = .ok (.aload 4, 2) := by decide +kernel
theorem dL_buy_2 : decode cL_buy 2 = .ok (.iconst 0, 1) := by decide +kernel
theorem dL_buy_3 : decode cL_buy 3 = .ok (.aload_n 0, 1) := by decide +kernel
theorem dL_buy_4 : decode cL_buy 4 = .ok (.iload_n 1, 1) := by decide +kernel
theorem dL_buy_5 : decode cL_buy 5 = .ok (.iload_n 2, 1) := by decide +kernel
theorem dL_buy_6 : decode cL_buy 6 = .ok (.iload_n 3, 1) := by decide +kernel
theorem dL_buy_7 : decode cL_buy 7 = .ok (.invokevirtual 20, 3) := by decide +kernel
theorem dL_buy_10 : decode cL_buy 10 = .ok (.i2l, 1) := by decide +kernel
theorem dL_buy_11 : decode cL_buy 11 = .ok (.lastore, 1) := by decide +kernel
theorem dL_buy_12 : decode cL_buy 12 = .ok (.goto 11, 3) := by decide +kernel
theorem dL_buy_15 : decode cL_buy 15 = .ok (.astore 5, 2) := by decide +kernel
theorem dL_buy_17 : decode cL_buy 17 = .ok (.iconst 1, 1) := by decide +kernel
theorem dL_buy_18 : decode cL_buy 18 = .ok (.ireturn, 1) := by decide +kernel
theorem dL_buy_19 : decode cL_buy 19 = .ok (.astore 5, 2) := by decide +kernel
theorem dL_buy_21 : decode cL_buy 21 = .ok (.iconst 2, 1) := by decide +kernel
theorem dL_buy_22 : decode cL_buy 22 = .ok (.ireturn, 1) := by decide +kernel
theorem dL_buy_23 : decode cL_buy 23 = .ok (.iconst 0, 1) := by decide +kernel
theorem dL_buy_24 : decode cL_buy 24 = .ok (.ireturn, 1) := by decide +kernel
set_option maxRecDepth 20000 in
theorem ggL_die_X3_die : GoodIn wsL_die wsX3_die := goodIn_ca (goodIn_ca (goodIn_r _ [7, 8, 9, 10, 11, 12, 13, 14, 15, 6, 16, 17, 18, 19, 20, 21, 22, 23, 24, 25, 26, 27, 28, 29, 30, 31, 32, 33, 34, 35, 36, 37, 38, 39, 40, 41, 42, 43, 44, 45, 46, 47, 48, 49, 50, 51, 52, 53, 54, 55, 56, 57, 58, 59, 60, 61, 62, 63, 64, 65, 66, 67, 68, 69, 70, 71, 72, 73, 74, 75] (by decide +kernel) (by decide +kernel)) (goodIn_sub (fun _ h => List.mem_cons_of_mem _ (List.mem_append_left _ (List.mem_append_right _ h))) (by decide +kernel))) (goodIn_sub (fun _ h => List.mem_cons_of_mem _ (List.mem_append_right _ h)) (by decide +kernel))
set_option maxRecDepth 20000 in
theorem gL_die_X3_die : GoodIn wsL_die (wsV RL 26 RX3 yX3_die wsX3_die) := goodIn_app (goodIn_of _ (by decide +kernel)) ggL_die_X3_die
theorem dL_die_0 : decode cL_die 0 = .ok (.aload_n 2, 1) := by decide +kernel
theorem dL_die_1 : decode cL_die 1 = .ok (.iconst 0, 1) := by decide +kernel
theorem dL_die_2 : decode cL_die 2 = .ok (.aload_n 0, 1) := by decide +kernel
theorem dL_die_3 : decode cL_die 3 = .ok (.iload_n 1, 1) := by decide +kernel
theorem dL_die_4 : decode cL_die 4 = .ok (.invokevirtual 26, 3) := by decide +kernel
theorem dL_die_7 : decode cL_die 7 = .ok (.i2l, 1) := by decide +kernel
theorem dL_die_8 : decode cL_die 8 = .ok (.lastore, 1) := by decide +kernel
theorem dL_die_9 : decode cL_die 9 = .ok (.goto 9, 3) := by decide +kernel
theorem dL_die_12 : decode cL_die 12 = .ok (.astore_n 3, 1) := by decide +kernel
theorem dL_die_13 : decode cL_die 13 = .ok (.iconst 1, 1) := by decide +kernel
theorem dL_die_14 : decode cL_die 14 = .ok (.ireturn, 1) := by decide +kernel
theorem dL_die_15 : decode cL_die 15 = .ok (.astore_n 3, 1) := by decide +kernel
theorem dL_die_16 : decode cL_die 16 = .ok (.iconst 2, 1) := by decide +kernel
theorem dL_die_17 : decode cL_die 17 = .ok (.ireturn, 1) := by decide +kernel
theorem dL_die_18 : decode cL_die 18 = .ok (.iconst 0, 1) := by decide +kernel
theorem dL_die_19 : decode cL_die 19 = .ok (.ireturn, 1) := by decide +kernel
set_option maxRecDepth 20000 in
theorem ggL_giveUp_X3_giveUp : GoodIn wsL_giveUp wsX3_giveUp := goodIn_ca (goodIn_ca (goodIn_r _ [7, 8, 9, 10, 11, 12, 13, 14, 15, 16, 6, 17, 18, 19, 20, 21, 22, 23, 24, 25, 26, 27, 28, 29, 30, 31, 32, 33, 34, 35, 36, 37, 38, 39, 40, 41, 42, 43, 44, 45, 46, 47, 48, 49, 50, 51, 52, 53, 54, 55, 56, 57, 58, 59, 60, 61, 62, 63, 64, 65, 66, 67, 68, 69, 70, 71, 72, 73, 74, 75, 76, 77, 78, 79, 80, 81, 82, 83, 84, 85, 86, 87, 88, 89, 90, 91, 92] (by decide +kernel) (by decide +kernel)) (goodIn_sub (fun _ h => List.mem_cons_of_mem _ (List.mem_append_left _ (List.mem_append_right _ h))) (by decide +kernel))) (goodIn_sub (fun _ h => List.mem_cons_of_mem _ (List.mem_append_right _ h)) (by decide +kernel))
set_option maxRecDepth 20000 in
theorem gL_giveUp_X3_giveUp : GoodIn wsL_giveUp (wsV RL 30 RX3 yX3_giveUp wsX3_giveUp) := goodIn_app (goodIn_of _ (by decide +kernel)) ggL_giveUp_X3_giveUp
theorem dL_giveUp_0 : decode cL_giveUp 0 = .ok (.aload_n 2, 1) := by decide +kernel
theorem dL_giveUp_1 : decode cL_giveUp 1 = .ok (.iconst 0, 1) := by decide +kernel
theorem dL_giveUp_2 : decode cL_giveUp 2 = .ok (.aload_n 0, 1) := by decide +kernel
theorem dL_giveUp_3 : decode cL_giveUp 3 = .ok (.iload_n 1, 1) := by decide +kernel
theorem dL_giveUp_4 : decode cL_giveUp 4 = .ok (.invokevirtual 30, 3) := by decide +kernel
theorem dL_giveUp_7 : decode cL_giveUp 7 = .ok (.i2l, 1) := by decide +kernel
theorem dL_giveUp_8 : decode cL_giveUp 8 = .ok (.lastore, 1) := by decide +kernel
theorem dL_giveUp_9 : decode cL_giveUp 9 = .ok (.goto 9, 3) := by decide +kernel
theorem dL_giveUp_12 : decode cL_giveUp 12 = .ok (.astore_n 3, 1) := by decide +kernel
theorem dL_giveUp_13 : decode cL_giveUp 13 = .ok (.iconst 1, 1) := by decide +kernel
theorem dL_giveUp_14 : decode cL_giveUp 14 = .ok (.ireturn, 1) := by decide +kernel
theorem dL_giveUp_15 : decode cL_giveUp 15 = .ok (.astore_n 3, 1) := by decide +kernel
theorem dL_giveUp_16 : decode cL_giveUp 16 = .ok (.iconst 2, 1) := by decide +kernel
theorem dL_giveUp_17 : decode cL_giveUp 17 = .ok (.ireturn, 1) := by decide +kernel
theorem dL_giveUp_18 : decode cL_giveUp 18 = .ok (.iconst 0, 1) := by decide +kernel
theorem dL_giveUp_19 : decode cL_giveUp 19 = .ok (.ireturn, 1) := by decide +kernel
set_option maxRecDepth 20000 in
theorem ggL_put_X3_put : GoodIn wsL_put wsX3_put := goodIn_ca (goodIn_r _ [6, 7, 8, 9, 10, 11, 12, 13, 14, 15, 16, 17, 18, 19, 20, 21, 22, 23, 24, 25, 26, 27, 28, 29] (by decide +kernel) (by decide +kernel)) (goodIn_sub (fun _ h => List.mem_cons_of_mem _ (List.mem_append_right _ h)) (by decide +kernel))
set_option maxRecDepth 20000 in
theorem gL_put_X3_put : GoodIn wsL_put (wsV RL 33 RX3 yX3_put wsX3_put) := goodIn_app (goodIn_of _ (by decide +kernel)) ggL_put_X3_put
theorem dL_put_0 : decode cL_put 0 = .ok (.aload_n 2, 1) := by decide +kernel
theorem dL_put_1 : decode cL_put 1 = .ok (.iconst 0, 1) := by decide +kernel
theorem dL_put_2 : decode cL_put 2 = .ok (.aload_n 0, 1) := by decide +kernel
theorem dL_put_3 : decode cL_put 3 = .ok (.iload_n 1, 1) := by decide +kernel
theorem dL_put_4 : decode cL_put 4 = .ok (.invokevirtual 33, 3) := by decide +kernel
theorem dL_put_7 : decode cL_put 7 = .ok (.i2l, 1) := by decide +kernel
theorem dL_put_8 : decode cL_put 8 = .ok (.lastore, 1) := by decide +kernel
theorem dL_put_9 : decode cL_put 9 = .ok (.goto 6, 3) := by decide +kernel
theorem dL_put_12 : decode cL_put 12 = .ok (.astore_n 3, 1) := by decide +kernel
theorem dL_put_13 : decode cL_put 13 = .ok (.iconst 1, 1) := by decide +kernel
theorem dL_put_14 : decode cL_put 14 = .ok (.ireturn, 1) := by decide +kernel
theorem dL_put_15 : decode cL_put 15 = .ok (.iconst 0, 1) := by decide +kernel
theorem dL_put_16 : decode cL_put 16 = .ok (.ireturn, 1) := by decide +kernel
set_option maxRecDepth 20000 in
theorem ggL_worth_X3_worth : GoodIn wsL_worth wsX3_worth := goodIn_ca (goodIn_r _ [6, 7, 8, 9, 5, 10, 11, 12, 13, 14, 15, 16, 17, 18, 19, 20, 21, 22, 23, 24, 25, 26, 27, 28, 29, 30, 31, 32, 33, 34, 35, 36, 37, 38] (by decide +kernel) (by decide +kernel)) (goodIn_sub (fun _ h => List.mem_cons_of_mem _ (List.mem_append_right _ h)) (by decide +kernel))
set_option maxRecDepth 20000 in
theorem gL_worth_X3_worth : GoodIn wsL_worth (wsV RL 36 RX3 yX3_worth wsX3_worth) := goodIn_app (goodIn_of _ (by decide +kernel)) ggL_worth_X3_worth
theorem dL_worth_0 : decode cL_worth 0 = .ok (.aload_n 3, 1) := by decide +kernel
theorem dL_worth_1 : decode cL_worth 1 = .ok (.iconst 0, 1) := by decide +kernel
theorem dL_worth_2 : decode cL_worth 2 = .ok (.aload_n 0, 1) := by decide +kernel
theorem dL_worth_3 : decode cL_worth 3 = .ok (.iload_n 1, 1) := by decide +kernel
theorem dL_worth_4 : decode cL_worth 4 = .ok (.iload_n 2, 1) := by decide +kernel
theorem dL_worth_5 : decode cL_worth 5 = .ok (.invokevirtual 36, 3) := by decide +kernel
theorem dL_worth_8 : decode cL_worth 8 = .ok (.i2l, 1) := by decide +kernel
theorem dL_worth_9 : decode cL_worth 9 = .ok (.lastore, 1) := by decide +kernel
theorem dL_worth_10 : decode cL_worth 10 = .ok (.goto 7, 3) := by decide +kernel
theorem dL_worth_13 : decode cL_worth 13 = .ok (.astore 4, 2) := by decide +kernel
theorem dL_worth_15 : decode cL_worth 15 = .ok (.iconst 1, 1) := by decide +kernel
theorem dL_worth_16 : decode cL_worth 16 = .ok (.ireturn, 1) := by decide +kernel
theorem dL_worth_17 : decode cL_worth 17 = .ok (.iconst 0, 1) := by decide +kernel
theorem dL_worth_18 : decode cL_worth 18 = .ok (.ireturn, 1) := by decide +kernel
set_option maxRecDepth 20000 in
theorem ggL_price_X3_price : GoodIn wsL_price wsX3_price := goodIn_ca (goodIn_r _ [6, 7, 8, 9, 5, 10, 11, 12, 13, 14, 15, 16, 17, 18, 19, 20, 21, 22, 23, 24, 25, 26, 27, 28, 29, 30, 31, 32, 33, 34, 35, 36, 37, 38, 39, 40, 41, 42, 43, 44, 45] (by decide +kernel) (by decide +kernel)) (goodIn_sub (fun _ h => List.mem_cons_of_mem _ (List.mem_append_right _ h)) (by decide +kernel))
set_option maxRecDepth 20000 in
theorem gL_price_X3_price : GoodIn wsL_price (wsV RL 39 RX3 yX3_price wsX3_price) := goodIn_app (goodIn_of _ (by decide +kernel)) ggL_price_X3_price
theorem dL_price_0 : decode cL_price 0 = .ok (.aload 4, 2) := by decide +kernel
theorem dL_price_2 : decode cL_price 2 = .ok (.iconst 0, 1) := by decide +kernel
theorem dL_price_3 : decode cL_price 3 = .ok (.aload_n 0, 1) := by decide +kernel
theorem dL_price_4 : decode cL_price 4 = .ok (.iload_n 1, 1) := by decide +kernel
theorem dL_price_5 : decode cL_price 5 = .ok (.iload_n 2, 1) := by decide +kernel
theorem dL_price_6 : decode cL_price 6 = .ok (.iload_n 3, 1) := by decide +kernel
theorem dL_price_7 : decode cL_price 7 = .ok (.invokevirtual 39, 3) := by decide +kernel
theorem dL_price_10 : decode cL_price 10 = .ok (.i2l, 1) := by decide +kernel
theorem dL_price_11 : decode cL_price 11 = .ok (.lastore, 1) := by decide +kernel
theorem dL_price_12 : decode cL_price 12 = .ok (.goto 7, 3) := by decide +kernel
theorem dL_price_15 : decode cL_price 15 = .ok (.astore 5, 2) := by decide +kernel
theorem dL_price_17 : decode cL_price 17 = .ok (.iconst 1, 1) := by decide +kernel
theorem dL_price_18 : decode cL_price 18 = .ok (.ireturn, 1) := by decide +kernel
theorem dL_price_19 : decode cL_price 19 = .ok (.iconst 0, 1) := by decide +kernel
theorem dL_price_20 : decode cL_price 20 = .ok (.ireturn, 1) := by decide +kernel
set_option maxRecDepth 20000 in
theorem ggL_told_X3_told : GoodIn wsL_told wsX3_told := goodIn_ca (goodIn_r _ [6, 7, 8, 9, 10, 11, 12, 13, 5, 14, 15, 16, 17, 18, 19, 20, 21, 22, 23, 24, 25, 26, 27, 28, 29, 30, 31, 32, 33, 34, 35, 36, 37, 38, 39, 40, 41, 42, 43, 44, 45, 46, 47, 48, 49, 50, 51, 52, 53, 54, 55, 56, 57, 58, 59, 60, 61, 62, 63, 64, 65, 66, 67, 68, 69, 70, 71, 72, 73, 74, 75, 76, 77, 78, 79, 80, 81, 82, 83, 84, 85, 86, 87, 88] (by decide +kernel) (by decide +kernel)) (goodIn_sub (fun _ h => List.mem_cons_of_mem _ (List.mem_append_right _ h)) (by decide +kernel))
set_option maxRecDepth 20000 in
theorem gL_told_X3_told : GoodIn wsL_told (wsV RL 42 RX3 yX3_told wsX3_told) := goodIn_app (goodIn_of _ (by decide +kernel)) ggL_told_X3_told
theorem dL_told_0 : decode cL_told 0 = .ok (.aload_n 3, 1) := by decide +kernel
theorem dL_told_1 : decode cL_told 1 = .ok (.iconst 0, 1) := by decide +kernel
theorem dL_told_2 : decode cL_told 2 = .ok (.aload_n 0, 1) := by decide +kernel
theorem dL_told_3 : decode cL_told 3 = .ok (.iload_n 1, 1) := by decide +kernel
theorem dL_told_4 : decode cL_told 4 = .ok (.iload_n 2, 1) := by decide +kernel
theorem dL_told_5 : decode cL_told 5 = .ok (.invokevirtual 42, 3) := by decide +kernel
theorem dL_told_8 : decode cL_told 8 = .ok (.i2l, 1) := by decide +kernel
theorem dL_told_9 : decode cL_told 9 = .ok (.lastore, 1) := by decide +kernel
theorem dL_told_10 : decode cL_told 10 = .ok (.goto 7, 3) := by decide +kernel
theorem dL_told_13 : decode cL_told 13 = .ok (.astore 4, 2) := by decide +kernel
theorem dL_told_15 : decode cL_told 15 = .ok (.iconst 1, 1) := by decide +kernel
theorem dL_told_16 : decode cL_told 16 = .ok (.ireturn, 1) := by decide +kernel
theorem dL_told_17 : decode cL_told 17 = .ok (.iconst 0, 1) := by decide +kernel
theorem dL_told_18 : decode cL_told 18 = .ok (.ireturn, 1) := by decide +kernel
set_option maxRecDepth 20000 in
theorem ggL_count_X3_count : GoodIn wsL_count wsX3_count := goodIn_ca (goodIn_r _ [6, 7, 8, 9, 10, 11, 12, 13, 14, 15, 16, 17, 18, 19, 20, 21, 22, 23, 24, 25, 26, 27, 28, 29, 30, 31, 32, 33, 34, 35, 36, 37, 38, 39, 40, 41, 42, 43, 44, 45, 46, 47, 48, 49, 50, 51, 52, 53, 54, 55, 56, 57, 58, 59, 60, 61, 62, 63, 5, 64, 65, 66, 67, 68, 69, 70, 71, 72, 73, 74, 75, 76, 77, 78, 79, 80, 81, 82, 83, 84, 85, 86, 87, 88, 89] (by decide +kernel) (by decide +kernel)) (goodIn_sub (fun _ h => List.mem_cons_of_mem _ (List.mem_append_right _ h)) (by decide +kernel))
set_option maxRecDepth 20000 in
theorem gL_count_X3_count : GoodIn wsL_count (wsV RL 45 RX3 yX3_count wsX3_count) := goodIn_app (goodIn_of _ (by decide +kernel)) ggL_count_X3_count
theorem dL_count_0 : decode cL_count 0 = .ok (.aload_n 2, 1) := by decide +kernel
theorem dL_count_1 : decode cL_count 1 = .ok (.iconst 0, 1) := by decide +kernel
theorem dL_count_2 : decode cL_count 2 = .ok (.aload_n 0, 1) := by decide +kernel
theorem dL_count_3 : decode cL_count 3 = .ok (.iload_n 1, 1) := by decide +kernel
theorem dL_count_4 : decode cL_count 4 = .ok (.invokevirtual 45, 3) := by decide +kernel
theorem dL_count_7 : decode cL_count 7 = .ok (.i2l, 1) := by decide +kernel
theorem dL_count_8 : decode cL_count 8 = .ok (.lastore, 1) := by decide +kernel
theorem dL_count_9 : decode cL_count 9 = .ok (.goto 6, 3) := by decide +kernel
theorem dL_count_12 : decode cL_count 12 = .ok (.astore_n 3, 1) := by decide +kernel
theorem dL_count_13 : decode cL_count 13 = .ok (.iconst 1, 1) := by decide +kernel
theorem dL_count_14 : decode cL_count 14 = .ok (.ireturn, 1) := by decide +kernel
theorem dL_count_15 : decode cL_count 15 = .ok (.iconst 0, 1) := by decide +kernel
theorem dL_count_16 : decode cL_count 16 = .ok (.ireturn, 1) := by decide +kernel
set_option maxRecDepth 20000 in
theorem ggL_alive_X3_alive : GoodIn wsL_alive wsX3_alive := goodIn_ca (goodIn_r _ [6, 7, 8, 9, 10, 11, 5, 12, 13, 14, 15, 16, 17, 18, 19, 20, 21, 22, 23, 24, 25, 26, 27, 28, 29, 30] (by decide +kernel) (by decide +kernel)) (goodIn_sub (fun _ h => List.mem_cons_of_mem _ (List.mem_append_right _ h)) (by decide +kernel))
set_option maxRecDepth 20000 in
theorem gL_alive_X3_alive : GoodIn wsL_alive (wsV RL 48 RX3 yX3_alive wsX3_alive) := goodIn_app (goodIn_of _ (by decide +kernel)) ggL_alive_X3_alive
theorem dL_alive_0 : decode cL_alive 0 = .ok (.aload_n 3, 1) := by decide +kernel
theorem dL_alive_1 : decode cL_alive 1 = .ok (.iconst 0, 1) := by decide +kernel
theorem dL_alive_2 : decode cL_alive 2 = .ok (.aload_n 0, 1) := by decide +kernel
theorem dL_alive_3 : decode cL_alive 3 = .ok (.iload_n 1, 1) := by decide +kernel
theorem dL_alive_4 : decode cL_alive 4 = .ok (.iload_n 2, 1) := by decide +kernel
theorem dL_alive_5 : decode cL_alive 5 = .ok (.invokevirtual 48, 3) := by decide +kernel
theorem dL_alive_8 : decode cL_alive 8 = .ok (.i2l, 1) := by decide +kernel
theorem dL_alive_9 : decode cL_alive 9 = .ok (.lastore, 1) := by decide +kernel
theorem dL_alive_10 : decode cL_alive 10 = .ok (.goto 7, 3) := by decide +kernel
theorem dL_alive_13 : decode cL_alive 13 = .ok (.astore 4, 2) := by decide +kernel
theorem dL_alive_15 : decode cL_alive 15 = .ok (.iconst 1, 1) := by decide +kernel
theorem dL_alive_16 : decode cL_alive 16 = .ok (.ireturn, 1) := by decide +kernel
theorem dL_alive_17 : decode cL_alive 17 = .ok (.iconst 0, 1) := by decide +kernel
theorem dL_alive_18 : decode cL_alive 18 = .ok (.ireturn, 1) := by decide +kernel
set_option maxRecDepth 20000 in
theorem ggL_pass_X3_pass : GoodIn wsL_pass wsX3_pass := goodIn_ca (goodIn_r _ [6, 7, 8, 9, 10, 5, 11, 12, 13, 14, 15, 16, 17, 18, 19, 20, 21, 22, 23, 24, 25, 26, 27, 28, 29, 30, 31, 32, 33, 34, 35, 36, 37, 38, 39, 40, 41, 42, 43, 44, 45, 46, 47, 48, 49, 50, 51, 52, 53, 54, 55, 56, 57, 58, 59, 60, 61, 62, 63, 64, 65, 66, 67, 68, 69, 70, 71, 72, 73, 74, 75, 76, 77, 78, 79, 80, 81, 82] (by decide +kernel) (by decide +kernel)) (goodIn_sub (fun _ h => List.mem_cons_of_mem _ (List.mem_append_right _ h)) (by decide +kernel))
set_option maxRecDepth 20000 in
theorem gL_pass_X3_pass : GoodIn wsL_pass (wsV RL 51 RX3 yX3_pass wsX3_pass) := goodIn_app (goodIn_of _ (by decide +kernel)) ggL_pass_X3_pass
theorem dL_pass_0 : decode cL_pass 0 = .ok (.aload_n 2, 1) := by decide +kernel
theorem dL_pass_1 : decode cL_pass 1 = .ok (.iconst 0, 1) := by decide +kernel
theorem dL_pass_2 : decode cL_pass 2 = .ok (.aload_n 0, 1) := by decide +kernel
theorem dL_pass_3 : decode cL_pass 3 = .ok (.iload_n 1, 1) := by decide +kernel
theorem dL_pass_4 : decode cL_pass 4 = .ok (.invokevirtual 51, 3) := by decide +kernel
theorem dL_pass_7 : decode cL_pass 7 = .ok (.i2l, 1) := by decide +kernel
theorem dL_pass_8 : decode cL_pass 8 = .ok (.lastore, 1) := by decide +kernel
theorem dL_pass_9 : decode cL_pass 9 = .ok (.goto 6, 3) := by decide +kernel
theorem dL_pass_12 : decode cL_pass 12 = .ok (.astore_n 3, 1) := by decide +kernel
theorem dL_pass_13 : decode cL_pass 13 = .ok (.iconst 1, 1) := by decide +kernel
theorem dL_pass_14 : decode cL_pass 14 = .ok (.ireturn, 1) := by decide +kernel
theorem dL_pass_15 : decode cL_pass 15 = .ok (.iconst 0, 1) := by decide +kernel
theorem dL_pass_16 : decode cL_pass 16 = .ok (.ireturn, 1) := by decide +kernel
set_option maxRecDepth 20000 in
theorem ggL_foresee_X3_foresee : GoodIn wsL_foresee wsX3_foresee := goodIn_ca (goodIn_ca (goodIn_r _ [7, 8, 9, 10, 11, 12, 13, 6, 14, 15, 16, 17, 18, 19, 20, 21, 22, 23, 24, 25, 26, 27, 28, 29, 30, 31, 32, 33, 34, 35, 36, 37, 38, 39, 40, 41, 42, 43, 44, 45, 46, 47, 48, 49, 50, 51, 52, 53, 54, 55, 56, 57, 58, 59, 60, 61, 62, 63, 64, 65, 66, 67, 68, 69, 70, 71, 72, 73, 74, 75, 76, 77, 78, 79, 80, 81, 82, 83, 84, 85, 86, 87, 88, 89, 90, 91, 92, 93, 94, 95, 96, 97, 98, 99, 100, 101, 102, 103, 104, 105, 106, 107, 108, 109, 110, 111, 112, 113, 114, 115, 116, 117, 118, 119, 120, 121, 122, 123, 124, 125, 126, 127, 128, 129, 130, 131, 132] (by decide +kernel) (by decide +kernel)) (goodIn_sub (fun _ h => List.mem_cons_of_mem _ (List.mem_append_left _ (List.mem_append_right _ h))) (by decide +kernel))) (goodIn_sub (fun _ h => List.mem_cons_of_mem _ (List.mem_append_right _ h)) (by decide +kernel))
set_option maxRecDepth 20000 in
theorem gL_foresee_X3_foresee : GoodIn wsL_foresee (wsV RL 54 RX3 yX3_foresee wsX3_foresee) := goodIn_app (goodIn_of _ (by decide +kernel)) ggL_foresee_X3_foresee
theorem dL_foresee_0 : decode cL_foresee 0 = .ok (.aload_n 3, 1) := by decide +kernel
theorem dL_foresee_1 : decode cL_foresee 1 = .ok (.iconst 0, 1) := by decide +kernel
theorem dL_foresee_2 : decode cL_foresee 2 = .ok (.aload_n 0, 1) := by decide +kernel
theorem dL_foresee_3 : decode cL_foresee 3 = .ok (.iload_n 1, 1) := by decide +kernel
theorem dL_foresee_4 : decode cL_foresee 4 = .ok (.iload_n 2, 1) := by decide +kernel
theorem dL_foresee_5 : decode cL_foresee 5 = .ok (.invokevirtual 54, 3) := by decide +kernel
theorem dL_foresee_8 : decode cL_foresee 8 = .ok (.i2l, 1) := by decide +kernel
theorem dL_foresee_9 : decode cL_foresee 9 = .ok (.lastore, 1) := by decide +kernel
theorem dL_foresee_10 : decode cL_foresee 10 = .ok (.goto 11, 3) := by decide +kernel
theorem dL_foresee_13 : decode cL_foresee 13 = .ok (.astore 4, 2) := by decide +kernel
theorem dL_foresee_15 : decode cL_foresee 15 = .ok (.iconst 1, 1) := by decide +kernel
theorem dL_foresee_16 : decode cL_foresee 16 = .ok (.ireturn, 1) := by decide +kernel
theorem dL_foresee_17 : decode cL_foresee 17 = .ok (.astore 4, 2) := by decide +kernel
theorem dL_foresee_19 : decode cL_foresee 19 = .ok (.iconst 2, 1) := by decide +kernel
theorem dL_foresee_20 : decode cL_foresee 20 = .ok (.ireturn, 1) := by decide +kernel
theorem dL_foresee_21 : decode cL_foresee 21 = .ok (.iconst 0, 1) := by decide +kernel
theorem dL_foresee_22 : decode cL_foresee 22 = .ok (.ireturn, 1) := by decide +kernel
set_option maxRecDepth 20000 in
theorem ggL_affords_X3_affords : GoodIn wsL_affords wsX3_affords := goodIn_ca (goodIn_r _ [6, 7, 8, 9, 10, 11, 12, 5, 13, 14, 15, 16, 17, 18, 19, 20, 21, 22, 23, 24, 25, 26, 27, 28, 29, 30, 31, 32, 33, 34, 35, 36, 37, 38, 39, 40, 41, 42, 43, 44, 45, 46, 47] (by decide +kernel) (by decide +kernel)) (goodIn_sub (fun _ h => List.mem_cons_of_mem _ (List.mem_append_right _ h)) (by decide +kernel))
set_option maxRecDepth 20000 in
theorem gL_affords_X3_affords : GoodIn wsL_affords (wsV RL 57 RX3 yX3_affords wsX3_affords) := goodIn_app (goodIn_of _ (by decide +kernel)) ggL_affords_X3_affords
theorem dL_affords_0 : decode cL_affords 0 = .ok (.aload 4, 2) := by decide +kernel
theorem dL_affords_2 : decode cL_affords 2 = .ok (.iconst 0, 1) := by decide +kernel
theorem dL_affords_3 : decode cL_affords 3 = .ok (.aload_n 0, 1) := by decide +kernel
theorem dL_affords_4 : decode cL_affords 4 = .ok (.iload_n 1, 1) := by decide +kernel
theorem dL_affords_5 : decode cL_affords 5 = .ok (.iload_n 2, 1) := by decide +kernel
theorem dL_affords_6 : decode cL_affords 6 = .ok (.iload_n 3, 1) := by decide +kernel
theorem dL_affords_7 : decode cL_affords 7 = .ok (.invokevirtual 57, 3) := by decide +kernel
theorem dL_affords_10 : decode cL_affords 10 = .ok (.i2l, 1) := by decide +kernel
theorem dL_affords_11 : decode cL_affords 11 = .ok (.lastore, 1) := by decide +kernel
theorem dL_affords_12 : decode cL_affords 12 = .ok (.goto 7, 3) := by decide +kernel
theorem dL_affords_15 : decode cL_affords 15 = .ok (.astore 5, 2) := by decide +kernel
theorem dL_affords_17 : decode cL_affords 17 = .ok (.iconst 1, 1) := by decide +kernel
theorem dL_affords_18 : decode cL_affords 18 = .ok (.ireturn, 1) := by decide +kernel
theorem dL_affords_19 : decode cL_affords 19 = .ok (.iconst 0, 1) := by decide +kernel
theorem dL_affords_20 : decode cL_affords 20 = .ok (.ireturn, 1) := by decide +kernel
set_option maxRecDepth 20000 in
theorem ggL_law_X3_init : GoodIn wsL_law wsX3_init := goodIn_r _ [9, 10, 11, 12, 13, 14, 15, 16, 17, 18, 19, 20, 21, 22, 23, 24, 25, 26, 27, 28, 29, 30, 31, 32, 33, 34, 35, 36, 37, 38, 39, 40, 558, 559, 548, 549, 550, 560, 561, 562, 563, 564, 565, 566, 567, 568, 569, 570, 571, 572, 573] (by decide +kernel) (by decide +kernel)
set_option maxRecDepth 20000 in
theorem gL_law_X3_init : GoodIn wsL_law (wsX3_init) := ggL_law_X3_init
set_option maxRecDepth 20000 in
theorem ggL_law_X4_init : GoodIn wsL_law wsX4_init := goodIn_r _ [43, 44, 11, 12, 26, 45, 46, 47, 48, 49, 50, 51, 52, 5, 53, 551, 552, 553, 554, 555, 556, 557] (by decide +kernel) (by decide +kernel)
set_option maxRecDepth 20000 in
theorem gL_law_X4_init : GoodIn wsL_law (wsX4_init) := ggL_law_X4_init
end
section
set_option maxRecDepth 20000 in
theorem ggL_law_L_setDeaths : GoodIn wsL_law wsL_setDeaths := goodIn_ca (goodIn_ca (goodIn_r _ [57, 58, 59, 60, 61, 62, 2, 63, 64, 65, 66, 67, 16, 68, 69, 70, 71, 72, 73, 15, 74, 27, 75, 76, 77, 78, 548, 549, 550, 558, 559] (by decide +kernel) (by decide +kernel)) (goodIn_sub (fun _ h => List.mem_append_left _ (List.mem_append_left _ (List.mem_append_right _ h))) (by decide +kernel))) (goodIn_sub (fun _ h => List.mem_append_left _ (List.mem_append_right _ h)) (by decide +kernel))
set_option maxRecDepth 20000 in
theorem gL_law_L_setDeaths : GoodIn wsL_law (va_wsS RL 64 yL_setDeaths wsL_setDeaths) := goodIn_app (goodIn_of _ (by decide +kernel)) ggL_law_L_setDeaths
set_option maxRecDepth 20000 in
theorem ggL_law_X4_setDeaths : GoodIn wsL_law wsX4_setDeaths := goodIn_r _ [82, 83, 46, 84, 85, 5, 86, 87, 88, 89, 90, 91, 92, 93, 50, 51, 52, 53, 49, 45, 551, 552, 553, 554, 555, 556, 557] (by decide +kernel) (by decide +kernel)
set_option maxRecDepth 20000 in
theorem gL_law_X4_setDeaths : GoodIn wsL_law (wsV RL 69 RX4 yX4_setDeaths wsX4_setDeaths) := goodIn_app (goodIn_of _ (by decide +kernel)) ggL_law_X4_setDeaths
set_option maxRecDepth 20000 in
theorem ggL_law_X4_thrown : GoodIn wsL_law wsX4_thrown := goodIn_r _ [97, 83, 551, 552, 553, 554, 555, 556, 557] (by decide +kernel) (by decide +kernel)
set_option maxRecDepth 20000 in
theorem gL_law_X4_thrown : GoodIn wsL_law (wsV RL 70 RX4 yX4_thrown wsX4_thrown) := goodIn_app (goodIn_of _ (by decide +kernel)) ggL_law_X4_thrown
set_option maxRecDepth 20000 in
theorem ggL_law_L_setRate : GoodIn wsL_law wsL_setRate := goodIn_ca (goodIn_ca (goodIn_r _ [100, 58, 59, 101, 102, 103, 2, 104, 64, 65, 66, 67, 16, 105, 106, 107, 15, 108, 28, 109, 110, 111, 112, 548, 549, 550, 558, 559] (by decide +kernel) (by decide +kernel)) (goodIn_sub (fun _ h => List.mem_append_left _ (List.mem_append_left _ (List.mem_append_right _ h))) (by decide +kernel))) (goodIn_sub (fun _ h => List.mem_append_left _ (List.mem_append_right _ h)) (by decide +kernel))
set_option maxRecDepth 20000 in
theorem gL_law_L_setRate : GoodIn wsL_law (va_wsS RL 74 yL_setRate wsL_setRate) := goodIn_app (goodIn_of _ (by decide +kernel)) ggL_law_L_setRate
set_option maxRecDepth 20000 in
theorem ggL_law_X4_setRate : GoodIn wsL_law wsX4_setRate := goodIn_r _ [116, 83, 117, 45, 87, 88, 5, 89, 90, 91, 92, 93, 50, 51, 52, 53, 49, 46, 551, 552, 553, 554, 555, 556, 557] (by decide +kernel) (by decide +kernel)
set_option maxRecDepth 20000 in
theorem gL_law_X4_setRate : GoodIn wsL_law (wsV RL 76 RX4 yX4_setRate wsX4_setRate) := goodIn_app (goodIn_of _ (by decide +kernel)) ggL_law_X4_setRate
set_option maxRecDepth 20000 in
theorem ggL_law_L_buy : GoodIn wsL_law wsL_buy := goodIn_ca (goodIn_ca (goodIn_r _ [120, 59, 121, 122, 123, 124, 2, 125, 126, 127, 20, 16, 128, 129, 130, 66, 67, 68, 69, 70, 131, 132, 133, 134, 135, 136, 137, 138, 139, 19, 140, 141, 142, 143, 144, 15, 145, 28, 146, 147, 148, 149, 150, 72, 73, 74, 27, 151, 152, 153, 154, 155, 156, 157, 158, 159, 160, 161, 162, 163, 35, 164, 165, 166, 37, 167, 168, 169, 170, 171, 172, 173, 174, 175, 176, 177, 178, 179, 180, 548, 549, 550, 560, 561, 562, 563, 564, 565, 566, 558, 559, 567, 568, 569, 570, 571, 572, 573] (by decide +kernel) (by decide +kernel)) (goodIn_sub (fun _ h => List.mem_append_right _ h) (by decide +kernel))) (goodIn_sub (fun _ h => List.mem_append_left _ (List.mem_append_right _ h)) (by decide +kernel))
set_option maxRecDepth 20000 in
theorem gL_law_L_buy : GoodIn wsL_law (va_wsS RL 77 yL_buy wsL_buy) := goodIn_app (goodIn_of _ (by decide +kernel)) ggL_law_L_buy
set_option maxRecDepth 20000 in
theorem ggL_law_X4_buy : GoodIn wsL_law wsX4_buy := goodIn_r _ [184, 83, 185, 26, 47, 186, 187, 188, 189, 190, 191, 5, 192, 84, 85, 86, 87, 88, 89, 193, 194, 195, 196, 197, 198, 90, 91, 92, 93, 199, 200, 201, 202, 49, 203, 204, 205, 206, 45, 207, 208, 209, 210, 211, 212, 213, 214, 48, 215, 216, 217, 218, 551, 552, 553, 554, 555, 556, 557] (by decide +kernel) (by decide +kernel)
set_option maxRecDepth 20000 in
theorem gL_law_X4_buy : GoodIn wsL_law (wsV RL 80 RX4 yX4_buy wsX4_buy) := goodIn_app (goodIn_of _ (by decide +kernel)) ggL_law_X4_buy
set_option maxRecDepth 20000 in
theorem ggL_law_L_die : GoodIn wsL_law wsL_die := goodIn_ca (goodIn_ca (goodIn_r _ [221, 58, 121, 222, 223, 224, 2, 225, 126, 127, 20, 16, 226, 227, 228, 229, 230, 64, 65, 231, 232, 161, 162, 19, 163, 35, 233, 234, 235, 37, 236, 172, 237, 238, 239, 15, 240, 28, 241, 242, 243, 244, 245, 246, 247, 248, 146, 147, 148, 149, 150, 72, 73, 74, 27, 69, 70, 548, 549, 550, 567, 568, 569, 570, 571, 572, 573, 560, 561, 562, 563, 564, 565, 566, 558, 559] (by decide +kernel) (by decide +kernel)) (goodIn_sub (fun _ h => List.mem_append_right _ h) (by decide +kernel))) (goodIn_sub (fun _ h => List.mem_append_left _ (List.mem_append_left _ (List.mem_append_right _ h))) (by decide +kernel))
set_option maxRecDepth 20000 in
theorem gL_law_L_die : GoodIn wsL_law (va_wsS RL 81 yL_die wsL_die) := goodIn_app (goodIn_of _ (by decide +kernel)) ggL_law_L_die
set_option maxRecDepth 20000 in
theorem ggL_law_X4_die : GoodIn wsL_law wsX4_die := goodIn_r _ [252, 83, 253, 254, 255, 5, 256, 185, 87, 88, 89, 90, 91, 92, 93, 257, 258, 259, 260, 261, 262, 263, 264, 47, 265, 266, 267, 268, 199, 200, 201, 202, 49, 269, 270, 271, 272, 551, 552, 553, 554, 555, 556, 557] (by decide +kernel) (by decide +kernel)
set_option maxRecDepth 20000 in
theorem gL_law_X4_die : GoodIn wsL_law (wsV RL 84 RX4 yX4_die wsX4_die) := goodIn_app (goodIn_of _ (by decide +kernel)) ggL_law_X4_die
set_option maxRecDepth 20000 in
theorem ggL_law_L_giveUp : GoodIn wsL_law wsL_giveUp := goodIn_ca (goodIn_ca (goodIn_r _ [275, 58, 121, 276, 277, 278, 2, 279, 126, 127, 20, 16, 226, 280, 227, 228, 229, 230, 64, 65, 231, 232, 161, 162, 19, 163, 35, 281, 282, 283, 37, 284, 171, 285, 234, 235, 236, 172, 286, 287, 288, 15, 289, 28, 290, 291, 238, 239, 240, 241, 242, 243, 244, 245, 246, 247, 248, 146, 147, 148, 149, 150, 72, 73, 74, 27, 69, 70, 292, 293, 294, 295, 179, 296, 548, 549, 550, 567, 568, 569, 570, 571, 572, 573, 560, 561, 562, 563, 564, 565, 566, 558, 559] (by decide +kernel) (by decide +kernel)) (goodIn_sub (fun _ h => List.mem_append_right _ h) (by decide +kernel))) (goodIn_sub (fun _ h => List.mem_append_left _ (List.mem_append_left _ (List.mem_append_right _ h))) (by decide +kernel))
set_option maxRecDepth 20000 in
theorem gL_law_L_giveUp : GoodIn wsL_law (va_wsS RL 85 yL_giveUp wsL_giveUp) := goodIn_app (goodIn_of _ (by decide +kernel)) ggL_law_L_giveUp
set_option maxRecDepth 20000 in
theorem ggL_law_X4_giveUp : GoodIn wsL_law wsX4_giveUp := goodIn_r _ [300, 83, 253, 254, 255, 5, 256, 185, 87, 88, 89, 90, 91, 92, 93, 257, 258, 259, 260, 261, 262, 263, 264, 47, 301, 302, 303, 304, 45, 265, 266, 267, 268, 199, 200, 201, 202, 49, 305, 306, 307, 308, 48, 269, 270, 271, 272, 551, 552, 553, 554, 555, 556, 557] (by decide +kernel) (by decide +kernel)
set_option maxRecDepth 20000 in
theorem gL_law_X4_giveUp : GoodIn wsL_law (wsV RL 87 RX4 yX4_giveUp wsX4_giveUp) := goodIn_app (goodIn_of _ (by decide +kernel)) ggL_law_X4_giveUp
set_option maxRecDepth 20000 in
theorem ggL_law_L_put : GoodIn wsL_law wsL_put := goodIn_ca (goodIn_r _ [311, 59, 312, 313, 314, 2, 315, 66, 67, 316, 317, 20, 318, 319, 176, 177, 19, 178, 179, 180, 548, 549, 550, 560, 561, 562, 563, 564, 565, 566] (by decide +kernel) (by decide +kernel)) (goodIn_sub (fun _ h => List.mem_append_left _ (List.mem_append_right _ h)) (by decide +kernel))
set_option maxRecDepth 20000 in
theorem gL_law_L_put : GoodIn wsL_law (va_wsS RL 88 yL_put wsL_put) := goodIn_app (goodIn_of _ (by decide +kernel)) ggL_law_L_put
set_option maxRecDepth 20000 in
theorem ggL_law_X4_put : GoodIn wsL_law wsX4_put := goodIn_r _ [323, 83, 324, 325, 48, 87, 88, 5, 89, 90, 91, 92, 93, 211, 212, 213, 214, 215, 216, 217, 209, 218, 551, 552, 553, 554, 555, 556, 557] (by decide +kernel) (by decide +kernel)
set_option maxRecDepth 20000 in
theorem gL_law_X4_put : GoodIn wsL_law (wsV RL 90 RX4 yX4_put wsX4_put) := goodIn_app (goodIn_of _ (by decide +kernel)) ggL_law_X4_put
set_option maxRecDepth 20000 in
theorem ggL_law_L_worth : GoodIn wsL_law wsL_worth := goodIn_ca (goodIn_r _ [328, 59, 329, 330, 331, 2, 332, 16, 128, 129, 130, 66, 67, 68, 69, 70, 134, 135, 136, 142, 143, 144, 15, 145, 28, 146, 147, 148, 149, 150, 72, 73, 74, 27, 548, 549, 550, 558, 559] (by decide +kernel) (by decide +kernel)) (goodIn_sub (fun _ h => List.mem_append_left _ (List.mem_append_right _ h)) (by decide +kernel))
set_option maxRecDepth 20000 in
theorem gL_law_L_worth : GoodIn wsL_law (va_wsS RL 91 yL_worth wsL_worth) := goodIn_app (goodIn_of _ (by decide +kernel)) ggL_law_L_worth
set_option maxRecDepth 20000 in
theorem ggL_law_X4_worth : GoodIn wsL_law wsX4_worth := goodIn_r _ [336, 83, 84, 85, 5, 86, 87, 88, 89, 196, 197, 198, 199, 200, 201, 202, 49, 90, 91, 92, 93, 551, 552, 553, 554, 555, 556, 557] (by decide +kernel) (by decide +kernel)
set_option maxRecDepth 20000 in
theorem gL_law_X4_worth : GoodIn wsL_law (wsV RL 93 RX4 yX4_worth wsX4_worth) := goodIn_app (goodIn_of _ (by decide +kernel)) ggL_law_X4_worth
set_option maxRecDepth 20000 in
theorem ggL_law_L_price : GoodIn wsL_law wsL_price := goodIn_ca (goodIn_r _ [339, 59, 340, 341, 342, 2, 343, 16, 128, 129, 130, 66, 67, 68, 69, 70, 131, 132, 133, 134, 135, 136, 142, 143, 144, 15, 145, 28, 146, 147, 148, 149, 150, 72, 73, 74, 27, 151, 152, 153, 154, 548, 549, 550, 558, 559] (by decide +kernel) (by decide +kernel)) (goodIn_sub (fun _ h => List.mem_append_left _ (List.mem_append_right _ h)) (by decide +kernel))
set_option maxRecDepth 20000 in
theorem gL_law_L_price : GoodIn wsL_law (va_wsS RL 94 yL_price wsL_price) := goodIn_app (goodIn_of _ (by decide +kernel)) ggL_law_L_price
set_option maxRecDepth 20000 in
theorem ggL_law_X4_price : GoodIn wsL_law wsX4_price := goodIn_r _ [347, 83, 190, 191, 5, 192, 84, 85, 86, 87, 88, 89, 193, 194, 195, 196, 197, 198, 203, 204, 205, 206, 45, 207, 208, 209, 210, 199, 200, 201, 202, 49, 90, 91, 92, 93, 551, 552, 553, 554, 555, 556, 557] (by decide +kernel) (by decide +kernel)
set_option maxRecDepth 20000 in
theorem gL_law_X4_price : GoodIn wsL_law (wsV RL 96 RX4 yX4_price wsX4_price) := goodIn_app (goodIn_of _ (by decide +kernel)) ggL_law_X4_price
set_option maxRecDepth 20000 in
theorem ggL_law_L_told : GoodIn wsL_law wsL_told := goodIn_ca (goodIn_r _ [350, 58, 351, 352, 353, 2, 354, 64, 65, 16, 20, 227, 228, 229, 230, 231, 232, 161, 162, 19, 163, 35, 355, 356, 357, 15, 358, 246, 245, 247, 359, 360, 361, 362, 291, 238, 239, 240, 28, 241, 242, 243, 244, 248, 234, 235, 37, 236, 172, 146, 147, 148, 149, 150, 72, 73, 74, 27, 69, 70, 363, 287, 288, 289, 290, 282, 283, 284, 171, 285, 548, 549, 550, 560, 561, 562, 563, 564, 565, 566, 567, 568, 569, 570, 571, 572, 573, 558, 559] (by decide +kernel) (by decide +kernel)) (goodIn_sub (fun _ h => List.mem_append_left _ (List.mem_append_left _ (List.mem_append_right _ h))) (by decide +kernel))
set_option maxRecDepth 20000 in
theorem gL_law_L_told : GoodIn wsL_law (va_wsS RL 97 yL_told wsL_told) := goodIn_app (goodIn_of _ (by decide +kernel)) ggL_law_L_told
set_option maxRecDepth 20000 in
theorem ggL_law_X4_told : GoodIn wsL_law wsX4_told := goodIn_r _ [367, 83, 253, 254, 255, 5, 256, 185, 87, 88, 89, 368, 369, 370, 371, 265, 266, 267, 268, 257, 258, 259, 260, 261, 262, 263, 264, 47, 199, 200, 201, 202, 49, 301, 302, 303, 304, 45, 90, 91, 92, 93, 551, 552, 553, 554, 555, 556, 557] (by decide +kernel) (by decide +kernel)
set_option maxRecDepth 20000 in
theorem gL_law_X4_told : GoodIn wsL_law (wsV RL 99 RX4 yX4_told wsX4_told) := goodIn_app (goodIn_of _ (by decide +kernel)) ggL_law_X4_told
set_option maxRecDepth 20000 in
theorem ggL_law_L_count : GoodIn wsL_law wsL_count := goodIn_ca (goodIn_r _ [374, 58, 375, 376, 377, 2, 378, 64, 65, 20, 379, 380, 381, 19, 382, 383, 141, 179, 33, 296, 159, 384, 385, 386, 387, 160, 161, 162, 163, 35, 388, 234, 235, 37, 236, 172, 389, 106, 107, 15, 108, 28, 390, 391, 392, 393, 394, 242, 243, 244, 245, 246, 247, 248, 146, 147, 148, 149, 150, 72, 73, 74, 27, 69, 70, 395, 396, 397, 398, 399, 400, 548, 549, 550, 560, 561, 562, 563, 564, 565, 566, 567, 568, 569, 570, 571, 572, 573, 558, 559] (by decide +kernel) (by decide +kernel)) (goodIn_sub (fun _ h => List.mem_append_left _ (List.mem_append_left _ (List.mem_append_right _ h))) (by decide +kernel))
set_option maxRecDepth 20000 in
theorem gL_law_L_count : GoodIn wsL_law (va_wsS RL 100 yL_count wsL_count) := goodIn_app (goodIn_of _ (by decide +kernel)) ggL_law_L_count
set_option maxRecDepth 20000 in
theorem ggL_law_X4_count : GoodIn wsL_law wsX4_count := goodIn_r _ [404, 83, 87, 88, 5, 89, 405, 406, 407, 408, 48, 185, 257, 258, 259, 260, 261, 262, 263, 264, 47, 409, 410, 411, 412, 265, 266, 267, 268, 199, 200, 201, 202, 49, 90, 91, 92, 93, 551, 552, 553, 554, 555, 556, 557] (by decide +kernel) (by decide +kernel)
set_option maxRecDepth 20000 in
theorem gL_law_X4_count : GoodIn wsL_law (wsV RL 102 RX4 yX4_count wsX4_count) := goodIn_app (goodIn_of _ (by decide +kernel)) ggL_law_X4_count
set_option maxRecDepth 20000 in
theorem ggL_law_L_alive : GoodIn wsL_law wsL_alive := goodIn_ca (goodIn_r _ [415, 59, 416, 417, 418, 2, 419, 66, 67, 16, 128, 129, 130, 68, 69, 70, 420, 421, 422, 15, 423, 150, 72, 73, 74, 27, 548, 549, 550, 558, 559] (by decide +kernel) (by decide +kernel)) (goodIn_sub (fun _ h => List.mem_append_left _ (List.mem_append_right _ h)) (by decide +kernel))
set_option maxRecDepth 20000 in
theorem gL_law_L_alive : GoodIn wsL_law (va_wsS RL 103 yL_alive wsL_alive) := goodIn_app (goodIn_of _ (by decide +kernel)) ggL_law_L_alive
set_option maxRecDepth 20000 in
theorem ggL_law_X4_alive : GoodIn wsL_law wsX4_alive := goodIn_r _ [427, 83, 46, 84, 85, 5, 86, 87, 88, 89, 90, 91, 92, 93, 551, 552, 553, 554, 555, 556, 557] (by decide +kernel) (by decide +kernel)
set_option maxRecDepth 20000 in
theorem gL_law_X4_alive : GoodIn wsL_law (wsV RL 105 RX4 yX4_alive wsX4_alive) := goodIn_app (goodIn_of _ (by decide +kernel)) ggL_law_X4_alive
set_option maxRecDepth 20000 in
theorem ggL_law_L_pass : GoodIn wsL_law wsL_pass := goodIn_ca (goodIn_r _ [430, 59, 431, 432, 433, 2, 434, 20, 435, 436, 437, 438, 66, 67, 439, 440, 441, 19, 442, 443, 444, 445, 446, 179, 33, 447, 141, 383, 389, 106, 107, 15, 108, 28, 175, 176, 177, 178, 180, 160, 161, 162, 163, 35, 388, 234, 235, 37, 236, 172, 448, 449, 450, 451, 170, 169, 173, 168, 171, 452, 293, 294, 295, 296, 548, 549, 550, 560, 561, 562, 563, 564, 565, 566, 558, 559, 567, 568, 569, 570, 571, 572, 573] (by decide +kernel) (by decide +kernel)) (goodIn_sub (fun _ h => List.mem_append_left _ (List.mem_append_right _ h)) (by decide +kernel))
set_option maxRecDepth 20000 in
theorem gL_law_L_pass : GoodIn wsL_law (va_wsS RL 106 yL_pass wsL_pass) := goodIn_app (goodIn_of _ (by decide +kernel)) ggL_law_L_pass
set_option maxRecDepth 20000 in
theorem ggL_law_X4_pass : GoodIn wsL_law wsX4_pass := goodIn_r _ [456, 83, 48, 87, 88, 5, 89, 90, 91, 92, 93, 457, 458, 459, 460, 461, 462, 463, 464, 45, 465, 185, 211, 212, 213, 214, 215, 216, 217, 209, 218, 257, 258, 259, 260, 261, 262, 263, 264, 47, 305, 306, 307, 308, 269, 270, 271, 272, 551, 552, 553, 554, 555, 556, 557] (by decide +kernel) (by decide +kernel)
set_option maxRecDepth 20000 in
theorem gL_law_X4_pass : GoodIn wsL_law (wsV RL 108 RX4 yX4_pass wsX4_pass) := goodIn_app (goodIn_of _ (by decide +kernel)) ggL_law_X4_pass
set_option maxRecDepth 20000 in
theorem ggL_law_L_foresee : GoodIn wsL_law wsL_foresee := goodIn_ca (goodIn_ca (goodIn_r _ [468, 59, 58, 469, 470, 471, 2, 472, 64, 65, 21, 20, 436, 437, 438, 66, 67, 473, 474, 475, 19, 476, 141, 179, 296, 159, 383, 35, 477, 478, 479, 37, 480, 168, 169, 170, 171, 172, 173, 174, 439, 440, 441, 442, 443, 444, 445, 446, 33, 447, 389, 106, 107, 15, 108, 28, 175, 176, 177, 178, 180, 160, 161, 162, 163, 388, 234, 235, 236, 448, 449, 450, 451, 452, 293, 294, 295, 379, 380, 381, 382, 384, 385, 386, 387, 390, 391, 392, 393, 394, 242, 243, 244, 245, 246, 247, 248, 146, 147, 148, 149, 150, 72, 73, 74, 27, 69, 70, 395, 396, 397, 398, 399, 400, 548, 549, 550, 560, 561, 562, 563, 564, 565, 566, 567, 568, 569, 570, 571, 572, 573, 558, 559] (by decide +kernel) (by decide +kernel)) (goodIn_sub (fun _ h => List.mem_append_left _ (List.mem_append_left _ (List.mem_append_right _ h))) (by decide +kernel))) (goodIn_sub (fun _ h => List.mem_append_left _ (List.mem_append_right _ h)) (by decide +kernel))
set_option maxRecDepth 20000 in
theorem gL_law_L_foresee : GoodIn wsL_law (va_wsS RL 109 yL_foresee wsL_foresee) := goodIn_app (goodIn_of _ (by decide +kernel)) ggL_law_L_foresee
set_option maxRecDepth 20000 in
theorem ggL_law_X4_foresee : GoodIn wsL_law wsX4_foresee := goodIn_r _ [484, 83, 47, 48, 87, 88, 5, 89, 90, 91, 92, 93, 485, 486, 487, 26, 186, 187, 188, 189, 457, 458, 459, 460, 461, 462, 463, 464, 45, 465, 185, 211, 212, 213, 214, 215, 216, 217, 209, 218, 257, 258, 259, 260, 261, 262, 263, 264, 305, 306, 307, 308, 269, 270, 271, 272, 405, 406, 407, 408, 409, 410, 411, 412, 265, 266, 267, 268, 199, 200, 201, 202, 49, 551, 552, 553, 554, 555, 556, 557] (by decide +kernel) (by decide +kernel)
set_option maxRecDepth 20000 in
theorem gL_law_X4_foresee : GoodIn wsL_law (wsV RL 111 RX4 yX4_foresee wsX4_foresee) := goodIn_app (goodIn_of _ (by decide +kernel)) ggL_law_X4_foresee
set_option maxRecDepth 20000 in
theorem ggL_law_X3_lasts : GoodIn wsL_law wsX3_lasts := goodIn_r _ [491, 21, 20, 318, 473, 474, 475, 19, 476, 141, 179, 296, 159, 383, 35, 477, 478, 479, 37, 480, 168, 169, 170, 171, 172, 173, 174, 492, 444, 445, 446, 33, 447, 389, 106, 107, 15, 108, 28, 175, 176, 177, 178, 180, 160, 161, 162, 163, 388, 234, 235, 236, 448, 449, 450, 451, 452, 293, 294, 295, 548, 549, 550, 560, 561, 562, 563, 564, 565, 566, 567, 568, 569, 570, 571, 572, 573, 558, 559] (by decide +kernel) (by decide +kernel)
set_option maxRecDepth 20000 in
theorem gL_law_X3_lasts : GoodIn wsL_law (wsV RL 112 RX3 yX3_lasts wsX3_lasts) := goodIn_app (goodIn_of _ (by decide +kernel)) ggL_law_X3_lasts
set_option maxRecDepth 20000 in
theorem ggL_law_X4_lasts : GoodIn wsL_law wsX4_lasts := goodIn_r _ [496, 83, 47, 48, 485, 486, 5, 487, 26, 186, 187, 188, 189, 461, 462, 463, 464, 45, 465, 185, 211, 212, 213, 214, 215, 216, 217, 209, 218, 257, 258, 259, 260, 261, 262, 263, 264, 305, 306, 307, 308, 269, 270, 271, 272, 551, 552, 553, 554, 555, 556, 557] (by decide +kernel) (by decide +kernel)
set_option maxRecDepth 20000 in
theorem gL_law_X4_lasts : GoodIn wsL_law (wsV RL 115 RX4 yX4_lasts wsX4_lasts) := goodIn_app (goodIn_of _ (by decide +kernel)) ggL_law_X4_lasts
set_option maxRecDepth 20000 in
theorem ggL_law_X3_even : GoodIn wsL_law wsX3_even := goodIn_r _ [500, 20, 318, 501, 391, 392, 19, 393, 141, 33, 160, 161, 162, 163, 35, 394, 242, 243, 15, 244, 245, 246, 247, 248, 234, 235, 37, 236, 172, 146, 147, 148, 149, 150, 72, 73, 74, 27, 69, 2, 70, 548, 549, 550, 560, 561, 562, 563, 564, 565, 566, 567, 568, 569, 570, 571, 572, 573, 558, 559] (by decide +kernel) (by decide +kernel)
set_option maxRecDepth 20000 in
theorem gL_law_X3_even : GoodIn wsL_law (wsV RL 116 RX3 yX3_even wsX3_even) := goodIn_app (goodIn_of _ (by decide +kernel)) ggL_law_X3_even
set_option maxRecDepth 20000 in
theorem ggL_law_X4_even : GoodIn wsL_law wsX4_even := goodIn_r _ [505, 83, 45, 117, 48, 50, 51, 52, 5, 53, 49, 46, 409, 410, 411, 412, 185, 265, 266, 267, 268, 257, 258, 259, 260, 261, 262, 263, 264, 47, 199, 200, 201, 202, 551, 552, 553, 554, 555, 556, 557] (by decide +kernel) (by decide +kernel)
set_option maxRecDepth 20000 in
theorem gL_law_X4_even : GoodIn wsL_law (wsV RL 119 RX4 yX4_even wsX4_even) := goodIn_app (goodIn_of _ (by decide +kernel)) ggL_law_X4_even
set_option maxRecDepth 20000 in
theorem ggL_law_L_affords : GoodIn wsL_law wsL_affords := goodIn_ca (goodIn_r _ [508, 59, 509, 510, 511, 2, 512, 66, 67, 317, 16, 128, 129, 130, 68, 69, 70, 134, 135, 136, 142, 143, 144, 15, 145, 28, 146, 147, 148, 149, 150, 72, 73, 74, 27, 513, 514, 515, 516, 517, 152, 153, 154, 548, 549, 550, 558, 559] (by decide +kernel) (by decide +kernel)) (goodIn_sub (fun _ h => List.mem_append_left _ (List.mem_append_right _ h)) (by decide +kernel))
set_option maxRecDepth 20000 in
theorem gL_law_L_affords : GoodIn wsL_law (va_wsS RL 120 yL_affords wsL_affords) := goodIn_app (goodIn_of _ (by decide +kernel)) ggL_law_L_affords
set_option maxRecDepth 20000 in
theorem ggL_law_X4_affords : GoodIn wsL_law wsX4_affords := goodIn_r _ [521, 83, 325, 84, 85, 5, 86, 87, 88, 89, 196, 197, 198, 90, 91, 92, 93, 199, 200, 201, 202, 49, 203, 204, 205, 206, 45, 207, 208, 209, 210, 551, 552, 553, 554, 555, 556, 557] (by decide +kernel) (by decide +kernel)
set_option maxRecDepth 20000 in
theorem gL_law_X4_affords : GoodIn wsL_law (wsV RL 122 RX4 yX4_affords wsX4_affords) := goodIn_app (goodIn_of _ (by decide +kernel)) ggL_law_X4_affords
set_option maxRecDepth 20000 in
theorem ggL_law_X3_mean : GoodIn wsL_law wsX3_mean := goodIn_r _ [525, 20, 526, 385, 386, 19, 387, 141, 160, 161, 162, 163, 35, 388, 234, 235, 37, 236, 172, 527, 528, 529, 530, 531, 548, 549, 550, 560, 561, 562, 563, 564, 565, 566, 567, 568, 569, 570, 571, 572, 573] (by decide +kernel) (by decide +kernel)
set_option maxRecDepth 20000 in
theorem gL_law_X3_mean : GoodIn wsL_law (wsV RL 123 RX3 yX3_mean wsX3_mean) := goodIn_app (goodIn_of _ (by decide +kernel)) ggL_law_X3_mean
set_option maxRecDepth 20000 in
theorem ggL_law_X4_mean : GoodIn wsL_law wsX4_mean := goodIn_r _ [535, 83, 185, 257, 258, 259, 5, 260, 261, 262, 263, 264, 47, 405, 406, 407, 408, 48, 409, 410, 411, 412, 265, 266, 267, 268, 199, 200, 201, 202, 49, 551, 552, 553, 554, 555, 556, 557] (by decide +kernel) (by decide +kernel)
set_option maxRecDepth 20000 in
theorem gL_law_X4_mean : GoodIn wsL_law (wsV RL 127 RX4 yX4_mean wsX4_mean) := goodIn_app (goodIn_of _ (by decide +kernel)) ggL_law_X4_mean
set_option maxRecDepth 20000 in
theorem ggL_law_X3_digest : GoodIn wsL_law wsX3_digest := goodIn_r _ [539, 540, 541, 20, 16, 231, 379, 380, 381, 19, 382, 383, 141, 179, 33, 296, 159, 384, 385, 386, 387, 160, 161, 162, 163, 35, 388, 234, 235, 37, 236, 172, 389, 106, 107, 15, 108, 28, 390, 391, 392, 393, 394, 242, 243, 244, 245, 246, 247, 248, 146, 147, 148, 149, 150, 72, 73, 74, 27, 69, 2, 70, 395, 396, 397, 398, 399, 400, 105, 71, 232, 355, 356, 357, 358, 359, 360, 361, 362, 291, 238, 239, 240, 241, 363, 287, 288, 289, 290, 282, 283, 284, 171, 285, 548, 549, 550, 560, 561, 562, 563, 564, 565, 566, 567, 568, 569, 570, 571, 572, 573, 558, 559] (by decide +kernel) (by decide +kernel)
set_option maxRecDepth 20000 in
theorem gL_law_X3_digest : GoodIn wsL_law (wsV RL 128 RX3 yX3_digest wsX3_digest) := goodIn_app (goodIn_of _ (by decide +kernel)) ggL_law_X3_digest
set_option maxRecDepth 20000 in
theorem ggL_law_X4_digest : GoodIn wsL_law wsX4_digest := goodIn_r _ [545, 83, 546, 547, 45, 46, 185, 405, 406, 407, 5, 408, 48, 257, 258, 259, 260, 261, 262, 263, 264, 47, 409, 410, 411, 412, 265, 266, 267, 268, 199, 200, 201, 202, 49, 368, 369, 370, 371, 301, 302, 303, 304, 551, 552, 553, 554, 555, 556, 557] (by decide +kernel) (by decide +kernel)
set_option maxRecDepth 20000 in
theorem gL_law_X4_digest : GoodIn wsL_law (wsV RL 132 RX4 yX4_digest wsX4_digest) := goodIn_app (goodIn_of _ (by decide +kernel)) ggL_law_X4_digest
theorem dL_law_0 : decode cL_law 0 = .ok (.new 8, 3) := by decide +kernel
theorem dL_law_3 : decode cL_law 3 = .ok (.dup, 1) := by decide +kernel
theorem dL_law_4 : decode cL_law 4 = .ok (.invokespecial 60, 3) := by decide +kernel
theorem dL_law_7 : decode cL_law 7 = .ok (.astore_n 1, 1) := by decide +kernel
theorem dL_law_8 : decode cL_law 8 = .ok (.new 61, 3) := by decide +kernel
theorem dL_law_11 : decode cL_law 11 = .ok (.dup, 1) := by decide +kernel
theorem dL_law_12 : decode cL_law 12 = .ok (.invokespecial 63, 3) := by decide +kernel
theorem dL_law_15 : decode cL_law 15 = .ok (.astore_n 2, 1) := by decide +kernel
theorem dL_law_16 : decode cL_law 16 = .ok (.iconst 1, 1) := by decide +kernel
theorem dL_law_17 : decode cL_law 17 = .ok (.newarray .long, 2) := by decide +kernel
theorem dL_law_19 : decode cL_law 19 = .ok (.astore_n 3, 1) := by decide +kernel
theorem dL_law_20 : decode cL_law 20 = .ok (.iconst 0, 1) := by decide +kernel
theorem dL_law_21 : decode cL_law 21 = .ok (.istore 4, 2) := by decide +kernel
theorem dL_law_23 : decode cL_law 23 = .ok (.iload 4, 2) := by decide +kernel
theorem dL_law_25 : decode cL_law 25 = .ok (.aload_n 0, 1) := by decide +kernel
theorem dL_law_26 : decode cL_law 26 = .ok (.arraylength, 1) := by decide +kernel
theorem dL_law_27 : decode cL_law 27 = .ok (.iconst 4, 1) := by decide +kernel
theorem dL_law_28 : decode cL_law 28 = .ok (.isub, 1) := by decide +kernel
theorem dL_law_29 : decode cL_law 29 = .ok (.if_icmp .gt 1110, 3) := by decide +kernel
theorem dL_law_32 : decode cL_law 32 = .ok (.aload_n 0, 1) := by decide +kernel
theorem dL_law_33 : decode cL_law 33 = .ok (.iload 4, 2) := by decide +kernel
theorem dL_law_35 : decode cL_law 35 = .ok (.iaload, 1) := by decide +kernel
theorem dL_law_36 : decode cL_law 36 = .ok (.bipush 31, 2) := by decide +kernel
theorem dL_law_38 : decode cL_law 38 = .ok (.iand, 1) := by decide +kernel
theorem dL_law_39 : decode cL_law 39 = .ok (.tableswitch 1094 0 17 #[85, 153, 221, 301, 357, 413, 469, 537, 617, 685, 741, 809, 865, 933, 946, 959, 1039, 1080], 85) := by decide +kernel
theorem dL_law_124 : decode cL_law 124 = .ok (.aload_n 1, 1) := by decide +kernel
theorem dL_law_125 : decode cL_law 125 = .ok (.aload_n 0, 1) := by decide +kernel
theorem dL_law_126 : decode cL_law 126 = .ok (.iload 4, 2) := by decide +kernel
theorem dL_law_128 : decode cL_law 128 = .ok (.iconst 1, 1) := by decide +kernel
theorem dL_law_129 : decode cL_law 129 = .ok (.iadd, 1) := by decide +kernel
theorem dL_law_130 : decode cL_law 130 = .ok (.iaload, 1) := by decide +kernel
theorem dL_law_131 : decode cL_law 131 = .ok (.aload_n 0, 1) := by decide +kernel
theorem dL_law_132 : decode cL_law 132 = .ok (.iload 4, 2) := by decide +kernel
theorem dL_law_134 : decode cL_law 134 = .ok (.iconst 2, 1) := by decide +kernel
theorem dL_law_135 : decode cL_law 135 = .ok (.iadd, 1) := by decide +kernel
theorem dL_law_136 : decode cL_law 136 = .ok (.iaload, 1) := by decide +kernel
theorem dL_law_137 : decode cL_law 137 = .ok (.aload_n 3, 1) := by decide +kernel
theorem dL_law_138 : decode cL_law 138 = .ok (.invokestatic 64, 3) := by decide +kernel
theorem dL_law_141 : decode cL_law 141 = .ok (.istore 5, 2) := by decide +kernel
theorem dL_law_143 : decode cL_law 143 = .ok (.aload_n 2, 1) := by decide +kernel
theorem dL_law_144 : decode cL_law 144 = .ok (.aload_n 0, 1) := by decide +kernel
theorem dL_law_145 : decode cL_law 145 = .ok (.iload 4, 2) := by decide +kernel
theorem dL_law_147 : decode cL_law 147 = .ok (.iconst 1, 1) := by decide +kernel
theorem dL_law_148 : decode cL_law 148 = .ok (.iadd, 1) := by decide +kernel
theorem dL_law_149 : decode cL_law 149 = .ok (.iaload, 1) := by decide +kernel
theorem dL_law_150 : decode cL_law 150 = .ok (.aload_n 0, 1) := by decide +kernel
theorem dL_law_151 : decode cL_law 151 = .ok (.iload 4, 2) := by decide +kernel
theorem dL_law_153 : decode cL_law 153 = .ok (.iconst 2, 1) := by decide +kernel
theorem dL_law_154 : decode cL_law 154 = .ok (.iadd, 1) := by decide +kernel
theorem dL_law_155 : decode cL_law 155 = .ok (.iaload, 1) := by decide +kernel
theorem dL_law_156 : decode cL_law 156 = .ok (.invokevirtual 69, 3) := by decide +kernel
theorem dL_law_159 : decode cL_law 159 = .ok (.istore 6, 2) := by decide +kernel
theorem dL_law_161 : decode cL_law 161 = .ok (.aload_n 2, 1) := by decide +kernel
theorem dL_law_162 : decode cL_law 162 = .ok (.invokevirtual 70, 3) := by decide +kernel
theorem dL_law_165 : decode cL_law 165 = .ok (.iload 5, 2) := by decide +kernel
theorem dL_law_167 : decode cL_law 167 = .ok (.if_icmp .eq 5, 3) := by decide +kernel
theorem dL_law_170 : decode cL_law 170 = .ok (.iconst 0, 1) := by decide +kernel
theorem dL_law_171 : decode cL_law 171 = .ok (.ireturn, 1) := by decide +kernel
theorem dL_law_172 : decode cL_law 172 = .ok (.iload 5, 2) := by decide +kernel
theorem dL_law_174 : decode cL_law 174 = .ok (.ifCond .ne 15, 3) := by decide +kernel
theorem dL_law_177 : decode cL_law 177 = .ok (.aload_n 3, 1) := by decide +kernel
theorem dL_law_178 : decode cL_law 178 = .ok (.iconst 0, 1) := by decide +kernel
theorem dL_law_179 : decode cL_law 179 = .ok (.laload, 1) := by decide +kernel
theorem dL_law_180 : decode cL_law 180 = .ok (.iload 6, 2) := by decide +kernel
theorem dL_law_182 : decode cL_law 182 = .ok (.i2l, 1) := by decide +kernel
theorem dL_law_183 : decode cL_law 183 = .ok (.lcmp, 1) := by decide +kernel
theorem dL_law_184 : decode cL_law 184 = .ok (.ifCond .eq 5, 3) := by decide +kernel
theorem dL_law_187 : decode cL_law 187 = .ok (.iconst 0, 1) := by decide +kernel
theorem dL_law_188 : decode cL_law 188 = .ok (.ireturn, 1) := by decide +kernel
theorem dL_law_189 : decode cL_law 189 = .ok (.goto 944, 3) := by decide +kernel
theorem dL_law_192 : decode cL_law 192 = .ok (.aload_n 1, 1) := by decide +kernel
theorem dL_law_193 : decode cL_law 193 = .ok (.aload_n 0, 1) := by decide +kernel
theorem dL_law_194 : decode cL_law 194 = .ok (.iload 4, 2) := by decide +kernel
theorem dL_law_196 : decode cL_law 196 = .ok (.iconst 1, 1) := by decide +kernel
theorem dL_law_197 : decode cL_law 197 = .ok (.iadd, 1) := by decide +kernel
theorem dL_law_198 : decode cL_law 198 = .ok (.iaload, 1) := by decide +kernel
theorem dL_law_199 : decode cL_law 199 = .ok (.aload_n 0, 1) := by decide +kernel
theorem dL_law_200 : decode cL_law 200 = .ok (.iload 4, 2) := by decide +kernel
theorem dL_law_202 : decode cL_law 202 = .ok (.iconst 2, 1) := by decide +kernel
theorem dL_law_203 : decode cL_law 203 = .ok (.iadd, 1) := by decide +kernel
theorem dL_law_204 : decode cL_law 204 = .ok (.iaload, 1) := by decide +kernel
theorem dL_law_205 : decode cL_law 205 = .ok (.aload_n 3, 1) := by decide +kernel
theorem dL_law_206 : decode cL_law 206 = .ok (.invokestatic 74, 3) := by decide +kernel
theorem dL_law_209 : decode cL_law 209 = .ok (.istore 5, 2) := by decide +kernel
theorem dL_law_211 : decode cL_law 211 = .ok (.aload_n 2, 1) := by decide +kernel
theorem dL_law_212 : decode cL_law 212 = .ok (.aload_n 0, 1) := by decide +kernel
theorem dL_law_213 : decode cL_law 213 = .ok (.iload 4, 2) := by decide +kernel
theorem dL_law_215 : decode cL_law 215 = .ok (.iconst 1, 1) := by decide +kernel
theorem dL_law_216 : decode cL_law 216 = .ok (.iadd, 1) := by decide +kernel
theorem dL_law_217 : decode cL_law 217 = .ok (.iaload, 1) := by decide +kernel
theorem dL_law_218 : decode cL_law 218 = .ok (.aload_n 0, 1) := by decide +kernel
theorem dL_law_219 : decode cL_law 219 = .ok (.iload 4, 2) := by decide +kernel
theorem dL_law_221 : decode cL_law 221 = .ok (.iconst 2, 1) := by decide +kernel
theorem dL_law_222 : decode cL_law 222 = .ok (.iadd, 1) := by decide +kernel
theorem dL_law_223 : decode cL_law 223 = .ok (.iaload, 1) := by decide +kernel
theorem dL_law_224 : decode cL_law 224 = .ok (.invokevirtual 76, 3) := by decide +kernel
theorem dL_law_227 : decode cL_law 227 = .ok (.istore 6, 2) := by decide +kernel
theorem dL_law_229 : decode cL_law 229 = .ok (.aload_n 2, 1) := by decide +kernel
theorem dL_law_230 : decode cL_law 230 = .ok (.invokevirtual 70, 3) := by decide +kernel
theorem dL_law_233 : decode cL_law 233 = .ok (.iload 5, 2) := by decide +kernel
theorem dL_law_235 : decode cL_law 235 = .ok (.if_icmp .eq 5, 3) := by decide +kernel
theorem dL_law_238 : decode cL_law 238 = .ok (.iconst 0, 1) := by decide +kernel
theorem dL_law_239 : decode cL_law 239 = .ok (.ireturn, 1) := by decide +kernel
theorem dL_law_240 : decode cL_law 240 = .ok (.iload 5, 2) := by decide +kernel
theorem dL_law_242 : decode cL_law 242 = .ok (.ifCond .ne 15, 3) := by decide +kernel
theorem dL_law_245 : decode cL_law 245 = .ok (.aload_n 3, 1) := by decide +kernel
theorem dL_law_246 : decode cL_law 246 = .ok (.iconst 0, 1) := by decide +kernel
theorem dL_law_247 : decode cL_law 247 = .ok (.laload, 1) := by decide +kernel
theorem dL_law_248 : decode cL_law 248 = .ok (.iload 6, 2) := by decide +kernel
theorem dL_law_250 : decode cL_law 250 = .ok (.i2l, 1) := by decide +kernel
theorem dL_law_251 : decode cL_law 251 = .ok (.lcmp, 1) := by decide +kernel
theorem dL_law_252 : decode cL_law 252 = .ok (.ifCond .eq 5, 3) := by decide +kernel
theorem dL_law_255 : decode cL_law 255 = .ok (.iconst 0, 1) := by decide +kernel
theorem dL_law_256 : decode cL_law 256 = .ok (.ireturn, 1) := by decide +kernel
theorem dL_law_257 : decode cL_law 257 = .ok (.goto 876, 3) := by decide +kernel
theorem dL_law_260 : decode cL_law 260 = .ok (.aload_n 1, 1) := by decide +kernel
theorem dL_law_261 : decode cL_law 261 = .ok (.aload_n 0, 1) := by decide +kernel
theorem dL_law_262 : decode cL_law 262 = .ok (.iload 4, 2) := by decide +kernel
theorem dL_law_264 : decode cL_law 264 = .ok (.iconst 1, 1) := by decide +kernel
theorem dL_law_265 : decode cL_law 265 = .ok (.iadd, 1) := by decide +kernel
theorem dL_law_266 : decode cL_law 266 = .ok (.iaload, 1) := by decide +kernel
theorem dL_law_267 : decode cL_law 267 = .ok (.aload_n 0, 1) := by decide +kernel
theorem dL_law_268 : decode cL_law 268 = .ok (.iload 4, 2) := by decide +kernel
theorem dL_law_270 : decode cL_law 270 = .ok (.iconst 2, 1) := by decide +kernel
theorem dL_law_271 : decode cL_law 271 = .ok (.iadd, 1) := by decide +kernel
theorem dL_law_272 : decode cL_law 272 = .ok (.iaload, 1) := by decide +kernel
theorem dL_law_273 : decode cL_law 273 = .ok (.aload_n 0, 1) := by decide +kernel
theorem dL_law_274 : decode cL_law 274 = .ok (.iload 4, 2) := by decide +kernel
theorem dL_law_276 : decode cL_law 276 = .ok (.iconst 3, 1) := by decide +kernel
theorem dL_law_277 : decode cL_law 277 = .ok (.iadd, 1) := by decide +kernel
theorem dL_law_278 : decode cL_law 278 = .ok (.iaload, 1) := by decide +kernel
theorem dL_law_279 : decode cL_law 279 = .ok (.aload_n 3, 1) := by decide +kernel
theorem dL_law_280 : decode cL_law 280 = .ok (.invokestatic 77, 3) := by decide +kernel
theorem dL_law_283 : decode cL_law 283 = .ok (.istore 5, 2) := by decide +kernel
theorem dL_law_285 : decode cL_law 285 = .ok (.aload_n 2, 1) := by decide +kernel
theorem dL_law_286 : decode cL_law 286 = .ok (.aload_n 0, 1) := by decide +kernel
theorem dL_law_287 : decode cL_law 287 = .ok (.iload 4, 2) := by decide +kernel
theorem dL_law_289 : decode cL_law 289 = .ok (.iconst 1, 1) := by decide +kernel
theorem dL_law_290 : decode cL_law 290 = .ok (.iadd, 1) := by decide +kernel
theorem dL_law_291 : decode cL_law 291 = .ok (.iaload, 1) := by decide +kernel
theorem dL_law_292 : decode cL_law 292 = .ok (.aload_n 0, 1) := by decide +kernel
theorem dL_law_293 : decode cL_law 293 = .ok (.iload 4, 2) := by decide +kernel
theorem dL_law_295 : decode cL_law 295 = .ok (.iconst 2, 1) := by decide +kernel
theorem dL_law_296 : decode cL_law 296 = .ok (.iadd, 1) := by decide +kernel
theorem dL_law_297 : decode cL_law 297 = .ok (.iaload, 1) := by decide +kernel
theorem dL_law_298 : decode cL_law 298 = .ok (.aload_n 0, 1) := by decide +kernel
theorem dL_law_299 : decode cL_law 299 = .ok (.iload 4, 2) := by decide +kernel
theorem dL_law_301 : decode cL_law 301 = .ok (.iconst 3, 1) := by decide +kernel
theorem dL_law_302 : decode cL_law 302 = .ok (.iadd, 1) := by decide +kernel
theorem dL_law_303 : decode cL_law 303 = .ok (.iaload, 1) := by decide +kernel
theorem dL_law_304 : decode cL_law 304 = .ok (.invokevirtual 80, 3) := by decide +kernel
theorem dL_law_307 : decode cL_law 307 = .ok (.istore 6, 2) := by decide +kernel
theorem dL_law_309 : decode cL_law 309 = .ok (.aload_n 2, 1) := by decide +kernel
theorem dL_law_310 : decode cL_law 310 = .ok (.invokevirtual 70, 3) := by decide +kernel
theorem dL_law_313 : decode cL_law 313 = .ok (.iload 5, 2) := by decide +kernel
theorem dL_law_315 : decode cL_law 315 = .ok (.if_icmp .eq 5, 3) := by decide +kernel
theorem dL_law_318 : decode cL_law 318 = .ok (.iconst 0, 1) := by decide +kernel
theorem dL_law_319 : decode cL_law 319 = .ok (.ireturn, 1) := by decide +kernel
theorem dL_law_320 : decode cL_law 320 = .ok (.iload 5, 2) := by decide +kernel
theorem dL_law_322 : decode cL_law 322 = .ok (.ifCond .ne 15, 3) := by decide +kernel
theorem dL_law_325 : decode cL_law 325 = .ok (.aload_n 3, 1) := by decide +kernel
theorem dL_law_326 : decode cL_law 326 = .ok (.iconst 0, 1) := by decide +kernel
theorem dL_law_327 : decode cL_law 327 = .ok (.laload, 1) := by decide +kernel
theorem dL_law_328 : decode cL_law 328 = .ok (.iload 6, 2) := by decide +kernel
theorem dL_law_330 : decode cL_law 330 = .ok (.i2l, 1) := by decide +kernel
theorem dL_law_331 : decode cL_law 331 = .ok (.lcmp, 1) := by decide +kernel
theorem dL_law_332 : decode cL_law 332 = .ok (.ifCond .eq 5, 3) := by decide +kernel
theorem dL_law_335 : decode cL_law 335 = .ok (.iconst 0, 1) := by decide +kernel
theorem dL_law_336 : decode cL_law 336 = .ok (.ireturn, 1) := by decide +kernel
theorem dL_law_337 : decode cL_law 337 = .ok (.goto 796, 3) := by decide +kernel
theorem dL_law_340 : decode cL_law 340 = .ok (.aload_n 1, 1) := by decide +kernel
theorem dL_law_341 : decode cL_law 341 = .ok (.aload_n 0, 1) := by decide +kernel
theorem dL_law_342 : decode cL_law 342 = .ok (.iload 4, 2) := by decide +kernel
theorem dL_law_344 : decode cL_law 344 = .ok (.iconst 1, 1) := by decide +kernel
theorem dL_law_345 : decode cL_law 345 = .ok (.iadd, 1) := by decide +kernel
theorem dL_law_346 : decode cL_law 346 = .ok (.iaload, 1) := by decide +kernel
theorem dL_law_347 : decode cL_law 347 = .ok (.aload_n 3, 1) := by decide +kernel
theorem dL_law_348 : decode cL_law 348 = .ok (.invokestatic 81, 3) := by decide +kernel
theorem dL_law_351 : decode cL_law 351 = .ok (.istore 5, 2) := by decide +kernel
theorem dL_law_353 : decode cL_law 353 = .ok (.aload_n 2, 1) := by decide +kernel
theorem dL_law_354 : decode cL_law 354 = .ok (.aload_n 0, 1) := by decide +kernel
theorem dL_law_355 : decode cL_law 355 = .ok (.iload 4, 2) := by decide +kernel
theorem dL_law_357 : decode cL_law 357 = .ok (.iconst 1, 1) := by decide +kernel
theorem dL_law_358 : decode cL_law 358 = .ok (.iadd, 1) := by decide +kernel
theorem dL_law_359 : decode cL_law 359 = .ok (.iaload, 1) := by decide +kernel
theorem dL_law_360 : decode cL_law 360 = .ok (.invokevirtual 84, 3) := by decide +kernel
theorem dL_law_363 : decode cL_law 363 = .ok (.istore 6, 2) := by decide +kernel
theorem dL_law_365 : decode cL_law 365 = .ok (.aload_n 2, 1) := by decide +kernel
theorem dL_law_366 : decode cL_law 366 = .ok (.invokevirtual 70, 3) := by decide +kernel
theorem dL_law_369 : decode cL_law 369 = .ok (.iload 5, 2) := by decide +kernel
theorem dL_law_371 : decode cL_law 371 = .ok (.if_icmp .eq 5, 3) := by decide +kernel
theorem dL_law_374 : decode cL_law 374 = .ok (.iconst 0, 1) := by decide +kernel
theorem dL_law_375 : decode cL_law 375 = .ok (.ireturn, 1) := by decide +kernel
theorem dL_law_376 : decode cL_law 376 = .ok (.iload 5, 2) := by decide +kernel
theorem dL_law_378 : decode cL_law 378 = .ok (.ifCond .ne 15, 3) := by decide +kernel
theorem dL_law_381 : decode cL_law 381 = .ok (.aload_n 3, 1) := by decide +kernel
theorem dL_law_382 : decode cL_law 382 = .ok (.iconst 0, 1) := by decide +kernel
theorem dL_law_383 : decode cL_law 383 = .ok (.laload, 1) := by decide +kernel
theorem dL_law_384 : decode cL_law 384 = .ok (.iload 6, 2) := by decide +kernel
theorem dL_law_386 : decode cL_law 386 = .ok (.i2l, 1) := by decide +kernel
theorem dL_law_387 : decode cL_law 387 = .ok (.lcmp, 1) := by decide +kernel
theorem dL_law_388 : decode cL_law 388 = .ok (.ifCond .eq 5, 3) := by decide +kernel
theorem dL_law_391 : decode cL_law 391 = .ok (.iconst 0, 1) := by decide +kernel
theorem dL_law_392 : decode cL_law 392 = .ok (.ireturn, 1) := by decide +kernel
theorem dL_law_393 : decode cL_law 393 = .ok (.goto 740, 3) := by decide +kernel
theorem dL_law_396 : decode cL_law 396 = .ok (.aload_n 1, 1) := by decide +kernel
theorem dL_law_397 : decode cL_law 397 = .ok (.aload_n 0, 1) := by decide +kernel
theorem dL_law_398 : decode cL_law 398 = .ok (.iload 4, 2) := by decide +kernel
theorem dL_law_400 : decode cL_law 400 = .ok (.iconst 1, 1) := by decide +kernel
theorem dL_law_401 : decode cL_law 401 = .ok (.iadd, 1) := by decide +kernel
theorem dL_law_402 : decode cL_law 402 = .ok (.iaload, 1) := by decide +kernel
theorem dL_law_403 : decode cL_law 403 = .ok (.aload_n 3, 1) := by decide +kernel
theorem dL_law_404 : decode cL_law 404 = .ok (.invokestatic 85, 3) := by decide +kernel
theorem dL_law_407 : decode cL_law 407 = .ok (.istore 5, 2) := by decide +kernel
theorem dL_law_409 : decode cL_law 409 = .ok (.aload_n 2, 1) := by decide +kernel
theorem dL_law_410 : decode cL_law 410 = .ok (.aload_n 0, 1) := by decide +kernel
theorem dL_law_411 : decode cL_law 411 = .ok (.iload 4, 2) := by decide +kernel
theorem dL_law_413 : decode cL_law 413 = .ok (.iconst 1, 1) := by decide +kernel
theorem dL_law_414 : decode cL_law 414 = .ok (.iadd, 1) := by decide +kernel
theorem dL_law_415 : decode cL_law 415 = .ok (.iaload, 1) := by decide +kernel
theorem dL_law_416 : decode cL_law 416 = .ok (.invokevirtual 87, 3) := by decide +kernel
theorem dL_law_419 : decode cL_law 419 = .ok (.istore 6, 2) := by decide +kernel
theorem dL_law_421 : decode cL_law 421 = .ok (.aload_n 2, 1) := by decide +kernel
theorem dL_law_422 : decode cL_law 422 = .ok (.invokevirtual 70, 3) := by decide +kernel
theorem dL_law_425 : decode cL_law 425 = .ok (.iload 5, 2) := by decide +kernel
theorem dL_law_427 : decode cL_law 427 = .ok (.if_icmp .eq 5, 3) := by decide +kernel
theorem dL_law_430 : decode cL_law 430 = .ok (.iconst 0, 1) := by decide +kernel
theorem dL_law_431 : decode cL_law 431 = .ok (.ireturn, 1) := by decide +kernel
theorem dL_law_432 : decode cL_law 432 = .ok (.iload 5, 2) := by decide +kernel
theorem dL_law_434 : decode cL_law 434 = .ok (.ifCond .ne 15, 3) := by decide +kernel
theorem dL_law_437 : decode cL_law 437 = .ok (.aload_n 3, 1) := by decide +kernel
theorem dL_law_438 : decode cL_law 438 = .ok (.iconst 0, 1) := by decide +kernel
theorem dL_law_439 : decode cL_law 439 = .ok (.laload, 1) := by decide +kernel
theorem dL_law_440 : decode cL_law 440 = .ok (.iload 6, 2) := by decide +kernel
theorem dL_law_442 : decode cL_law 442 = .ok (.i2l, 1) := by decide +kernel
theorem dL_law_443 : decode cL_law 443 = .ok (.lcmp, 1) := by decide +kernel
theorem dL_law_444 : decode cL_law 444 = .ok (.ifCond .eq 5, 3) := by decide +kernel
theorem dL_law_447 : decode cL_law 447 = .ok (.iconst 0, 1) := by decide +kernel
theorem dL_law_448 : decode cL_law 448 = .ok (.ireturn, 1) := by decide +kernel
theorem dL_law_449 : decode cL_law 449 = .ok (.goto 684, 3) := by decide +kernel
theorem dL_law_452 : decode cL_law 452 = .ok (.aload_n 1, 1) := by decide +kernel
theorem dL_law_453 : decode cL_law 453 = .ok (.aload_n 0, 1) := by decide +kernel
theorem dL_law_454 : decode cL_law 454 = .ok (.iload 4, 2) := by decide +kernel
theorem dL_law_456 : decode cL_law 456 = .ok (.iconst 1, 1) := by decide +kernel
theorem dL_law_457 : decode cL_law 457 = .ok (.iadd, 1) := by decide +kernel
theorem dL_law_458 : decode cL_law 458 = .ok (.iaload, 1) := by decide +kernel
theorem dL_law_459 : decode cL_law 459 = .ok (.aload_n 3, 1) := by decide +kernel
theorem dL_law_460 : decode cL_law 460 = .ok (.invokestatic 88, 3) := by decide +kernel
theorem dL_law_463 : decode cL_law 463 = .ok (.istore 5, 2) := by decide +kernel
theorem dL_law_465 : decode cL_law 465 = .ok (.aload_n 2, 1) := by decide +kernel
theorem dL_law_466 : decode cL_law 466 = .ok (.aload_n 0, 1) := by decide +kernel
theorem dL_law_467 : decode cL_law 467 = .ok (.iload 4, 2) := by decide +kernel
theorem dL_law_469 : decode cL_law 469 = .ok (.iconst 1, 1) := by decide +kernel
theorem dL_law_470 : decode cL_law 470 = .ok (.iadd, 1) := by decide +kernel
theorem dL_law_471 : decode cL_law 471 = .ok (.iaload, 1) := by decide +kernel
theorem dL_law_472 : decode cL_law 472 = .ok (.invokevirtual 90, 3) := by decide +kernel
theorem dL_law_475 : decode cL_law 475 = .ok (.istore 6, 2) := by decide +kernel
theorem dL_law_477 : decode cL_law 477 = .ok (.aload_n 2, 1) := by decide +kernel
theorem dL_law_478 : decode cL_law 478 = .ok (.invokevirtual 70, 3) := by decide +kernel
theorem dL_law_481 : decode cL_law 481 = .ok (.iload 5, 2) := by decide +kernel
theorem dL_law_483 : decode cL_law 483 = .ok (.if_icmp .eq 5, 3) := by decide +kernel
theorem dL_law_486 : decode cL_law 486 = .ok (.iconst 0, 1) := by decide +kernel
theorem dL_law_487 : decode cL_law 487 = .ok (.ireturn, 1) := by decide +kernel
theorem dL_law_488 : decode cL_law 488 = .ok (.iload 5, 2) := by decide +kernel
theorem dL_law_490 : decode cL_law 490 = .ok (.ifCond .ne 15, 3) := by decide +kernel
theorem dL_law_493 : decode cL_law 493 = .ok (.aload_n 3, 1) := by decide +kernel
theorem dL_law_494 : decode cL_law 494 = .ok (.iconst 0, 1) := by decide +kernel
theorem dL_law_495 : decode cL_law 495 = .ok (.laload, 1) := by decide +kernel
theorem dL_law_496 : decode cL_law 496 = .ok (.iload 6, 2) := by decide +kernel
theorem dL_law_498 : decode cL_law 498 = .ok (.i2l, 1) := by decide +kernel
theorem dL_law_499 : decode cL_law 499 = .ok (.lcmp, 1) := by decide +kernel
theorem dL_law_500 : decode cL_law 500 = .ok (.ifCond .eq 5, 3) := by decide +kernel
theorem dL_law_503 : decode cL_law 503 = .ok (.iconst 0, 1) := by decide +kernel
theorem dL_law_504 : decode cL_law 504 = .ok (.ireturn, 1) := by decide +kernel
theorem dL_law_505 : decode cL_law 505 = .ok (.goto 628, 3) := by decide +kernel
theorem dL_law_508 : decode cL_law 508 = .ok (.aload_n 1, 1) := by decide +kernel
theorem dL_law_509 : decode cL_law 509 = .ok (.aload_n 0, 1) := by decide +kernel
theorem dL_law_510 : decode cL_law 510 = .ok (.iload 4, 2) := by decide +kernel
theorem dL_law_512 : decode cL_law 512 = .ok (.iconst 1, 1) := by decide +kernel
theorem dL_law_513 : decode cL_law 513 = .ok (.iadd, 1) := by decide +kernel
theorem dL_law_514 : decode cL_law 514 = .ok (.iaload, 1) := by decide +kernel
theorem dL_law_515 : decode cL_law 515 = .ok (.aload_n 0, 1) := by decide +kernel
theorem dL_law_516 : decode cL_law 516 = .ok (.iload 4, 2) := by decide +kernel
theorem dL_law_518 : decode cL_law 518 = .ok (.iconst 2, 1) := by decide +kernel
theorem dL_law_519 : decode cL_law 519 = .ok (.iadd, 1) := by decide +kernel
theorem dL_law_520 : decode cL_law 520 = .ok (.iaload, 1) := by decide +kernel
theorem dL_law_521 : decode cL_law 521 = .ok (.aload_n 3, 1) := by decide +kernel
theorem dL_law_522 : decode cL_law 522 = .ok (.invokestatic 91, 3) := by decide +kernel
theorem dL_law_525 : decode cL_law 525 = .ok (.istore 5, 2) := by decide +kernel
theorem dL_law_527 : decode cL_law 527 = .ok (.aload_n 2, 1) := by decide +kernel
theorem dL_law_528 : decode cL_law 528 = .ok (.aload_n 0, 1) := by decide +kernel
theorem dL_law_529 : decode cL_law 529 = .ok (.iload 4, 2) := by decide +kernel
theorem dL_law_531 : decode cL_law 531 = .ok (.iconst 1, 1) := by decide +kernel
theorem dL_law_532 : decode cL_law 532 = .ok (.iadd, 1) := by decide +kernel
theorem dL_law_533 : decode cL_law 533 = .ok (.iaload, 1) := by decide +kernel
theorem dL_law_534 : decode cL_law 534 = .ok (.aload_n 0, 1) := by decide +kernel
theorem dL_law_535 : decode cL_law 535 = .ok (.iload 4, 2) := by decide +kernel
theorem dL_law_537 : decode cL_law 537 = .ok (.iconst 2, 1) := by decide +kernel
theorem dL_law_538 : decode cL_law 538 = .ok (.iadd, 1) := by decide +kernel
theorem dL_law_539 : decode cL_law 539 = .ok (.iaload, 1) := by decide +kernel
theorem dL_law_540 : decode cL_law 540 = .ok (.invokevirtual 93, 3) := by decide +kernel
theorem dL_law_543 : decode cL_law 543 = .ok (.istore 6, 2) := by decide +kernel
theorem dL_law_545 : decode cL_law 545 = .ok (.aload_n 2, 1) := by decide +kernel
theorem dL_law_546 : decode cL_law 546 = .ok (.invokevirtual 70, 3) := by decide +kernel
theorem dL_law_549 : decode cL_law 549 = .ok (.iload 5, 2) := by decide +kernel
theorem dL_law_551 : decode cL_law 551 = .ok (.if_icmp .eq 5, 3) := by decide +kernel
theorem dL_law_554 : decode cL_law 554 = .ok (.iconst 0, 1) := by decide +kernel
theorem dL_law_555 : decode cL_law 555 = .ok (.ireturn, 1) := by decide +kernel
theorem dL_law_556 : decode cL_law 556 = .ok (.iload 5, 2) := by decide +kernel
theorem dL_law_558 : decode cL_law 558 = .ok (.ifCond .ne 15, 3) := by decide +kernel
theorem dL_law_561 : decode cL_law 561 = .ok (.aload_n 3, 1) := by decide +kernel
theorem dL_law_562 : decode cL_law 562 = .ok (.iconst 0, 1) := by decide +kernel
theorem dL_law_563 : decode cL_law 563 = .ok (.laload, 1) := by decide +kernel
theorem dL_law_564 : decode cL_law 564 = .ok (.iload 6, 2) := by decide +kernel
theorem dL_law_566 : decode cL_law 566 = .ok (.i2l, 1) := by decide +kernel
theorem dL_law_567 : decode cL_law 567 = .ok (.lcmp, 1) := by decide +kernel
theorem dL_law_568 : decode cL_law 568 = .ok (.ifCond .eq 5, 3) := by decide +kernel
theorem dL_law_571 : decode cL_law 571 = .ok (.iconst 0, 1) := by decide +kernel
theorem dL_law_572 : decode cL_law 572 = .ok (.ireturn, 1) := by decide +kernel
theorem dL_law_573 : decode cL_law 573 = .ok (.goto 560, 3) := by decide +kernel
theorem dL_law_576 : decode cL_law 576 = .ok (.aload_n 1, 1) := by decide +kernel
theorem dL_law_577 : decode cL_law 577 = .ok (.aload_n 0, 1) := by decide +kernel
theorem dL_law_578 : decode cL_law 578 = .ok (.iload 4, 2) := by decide +kernel
theorem dL_law_580 : decode cL_law 580 = .ok (.iconst 1, 1) := by decide +kernel
theorem dL_law_581 : decode cL_law 581 = .ok (.iadd, 1) := by decide +kernel
theorem dL_law_582 : decode cL_law 582 = .ok (.iaload, 1) := by decide +kernel
theorem dL_law_583 : decode cL_law 583 = .ok (.aload_n 0, 1) := by decide +kernel
theorem dL_law_584 : decode cL_law 584 = .ok (.iload 4, 2) := by decide +kernel
theorem dL_law_586 : decode cL_law 586 = .ok (.iconst 2, 1) := by decide +kernel
theorem dL_law_587 : decode cL_law 587 = .ok (.iadd, 1) := by decide +kernel
theorem dL_law_588 : decode cL_law 588 = .ok (.iaload, 1) := by decide +kernel
theorem dL_law_589 : decode cL_law 589 = .ok (.aload_n 0, 1) := by decide +kernel
theorem dL_law_590 : decode cL_law 590 = .ok (.iload 4, 2) := by decide +kernel
theorem dL_law_592 : decode cL_law 592 = .ok (.iconst 3, 1) := by decide +kernel
theorem dL_law_593 : decode cL_law 593 = .ok (.iadd, 1) := by decide +kernel
theorem dL_law_594 : decode cL_law 594 = .ok (.iaload, 1) := by decide +kernel
theorem dL_law_595 : decode cL_law 595 = .ok (.aload_n 3, 1) := by decide +kernel
theorem dL_law_596 : decode cL_law 596 = .ok (.invokestatic 94, 3) := by decide +kernel
theorem dL_law_599 : decode cL_law 599 = .ok (.istore 5, 2) := by decide +kernel
theorem dL_law_601 : decode cL_law 601 = .ok (.aload_n 2, 1) := by decide +kernel
theorem dL_law_602 : decode cL_law 602 = .ok (.aload_n 0, 1) := by decide +kernel
theorem dL_law_603 : decode cL_law 603 = .ok (.iload 4, 2) := by decide +kernel
theorem dL_law_605 : decode cL_law 605 = .ok (.iconst 1, 1) := by decide +kernel
theorem dL_law_606 : decode cL_law 606 = .ok (.iadd, 1) := by decide +kernel
theorem dL_law_607 : decode cL_law 607 = .ok (.iaload, 1) := by decide +kernel
theorem dL_law_608 : decode cL_law 608 = .ok (.aload_n 0, 1) := by decide +kernel
theorem dL_law_609 : decode cL_law 609 = .ok (.iload 4, 2) := by decide +kernel
theorem dL_law_611 : decode cL_law 611 = .ok (.iconst 2, 1) := by decide +kernel
theorem dL_law_612 : decode cL_law 612 = .ok (.iadd, 1) := by decide +kernel
theorem dL_law_613 : decode cL_law 613 = .ok (.iaload, 1) := by decide +kernel
theorem dL_law_614 : decode cL_law 614 = .ok (.aload_n 0, 1) := by decide +kernel
theorem dL_law_615 : decode cL_law 615 = .ok (.iload 4, 2) := by decide +kernel
theorem dL_law_617 : decode cL_law 617 = .ok (.iconst 3, 1) := by decide +kernel
theorem dL_law_618 : decode cL_law 618 = .ok (.iadd, 1) := by decide +kernel
theorem dL_law_619 : decode cL_law 619 = .ok (.iaload, 1) := by decide +kernel
theorem dL_law_620 : decode cL_law 620 = .ok (.invokevirtual 96, 3) := by decide +kernel
theorem dL_law_623 : decode cL_law 623 = .ok (.istore 6, 2) := by decide +kernel
theorem dL_law_625 : decode cL_law 625 = .ok (.aload_n 2, 1) := by decide +kernel
theorem dL_law_626 : decode cL_law 626 = .ok (.invokevirtual 70, 3) := by decide +kernel
theorem dL_law_629 : decode cL_law 629 = .ok (.iload 5, 2) := by decide +kernel
theorem dL_law_631 : decode cL_law 631 = .ok (.if_icmp .eq 5, 3) := by decide +kernel
theorem dL_law_634 : decode cL_law 634 = .ok (.iconst 0, 1) := by decide +kernel
theorem dL_law_635 : decode cL_law 635 = .ok (.ireturn, 1) := by decide +kernel
theorem dL_law_636 : decode cL_law 636 = .ok (.iload 5, 2) := by decide +kernel
theorem dL_law_638 : decode cL_law 638 = .ok (.ifCond .ne 15, 3) := by decide +kernel
theorem dL_law_641 : decode cL_law 641 = .ok (.aload_n 3, 1) := by decide +kernel
theorem dL_law_642 : decode cL_law 642 = .ok (.iconst 0, 1) := by decide +kernel
theorem dL_law_643 : decode cL_law 643 = .ok (.laload, 1) := by decide +kernel
theorem dL_law_644 : decode cL_law 644 = .ok (.iload 6, 2) := by decide +kernel
theorem dL_law_646 : decode cL_law 646 = .ok (.i2l, 1) := by decide +kernel
theorem dL_law_647 : decode cL_law 647 = .ok (.lcmp, 1) := by decide +kernel
theorem dL_law_648 : decode cL_law 648 = .ok (.ifCond .eq 5, 3) := by decide +kernel
theorem dL_law_651 : decode cL_law 651 = .ok (.iconst 0, 1) := by decide +kernel
theorem dL_law_652 : decode cL_law 652 = .ok (.ireturn, 1) := by decide +kernel
theorem dL_law_653 : decode cL_law 653 = .ok (.goto 480, 3) := by decide +kernel
theorem dL_law_656 : decode cL_law 656 = .ok (.aload_n 1, 1) := by decide +kernel
theorem dL_law_657 : decode cL_law 657 = .ok (.aload_n 0, 1) := by decide +kernel
theorem dL_law_658 : decode cL_law 658 = .ok (.iload 4, 2) := by decide +kernel
theorem dL_law_660 : decode cL_law 660 = .ok (.iconst 1, 1) := by decide +kernel
theorem dL_law_661 : decode cL_law 661 = .ok (.iadd, 1) := by decide +kernel
theorem dL_law_662 : decode cL_law 662 = .ok (.iaload, 1) := by decide +kernel
theorem dL_law_663 : decode cL_law 663 = .ok (.aload_n 0, 1) := by decide +kernel
theorem dL_law_664 : decode cL_law 664 = .ok (.iload 4, 2) := by decide +kernel
theorem dL_law_666 : decode cL_law 666 = .ok (.iconst 2, 1) := by decide +kernel
theorem dL_law_667 : decode cL_law 667 = .ok (.iadd, 1) := by decide +kernel
theorem dL_law_668 : decode cL_law 668 = .ok (.iaload, 1) := by decide +kernel
theorem dL_law_669 : decode cL_law 669 = .ok (.aload_n 3, 1) := by decide +kernel
theorem dL_law_670 : decode cL_law 670 = .ok (.invokestatic 97, 3) := by decide +kernel
theorem dL_law_673 : decode cL_law 673 = .ok (.istore 5, 2) := by decide +kernel
theorem dL_law_675 : decode cL_law 675 = .ok (.aload_n 2, 1) := by decide +kernel
theorem dL_law_676 : decode cL_law 676 = .ok (.aload_n 0, 1) := by decide +kernel
theorem dL_law_677 : decode cL_law 677 = .ok (.iload 4, 2) := by decide +kernel
theorem dL_law_679 : decode cL_law 679 = .ok (.iconst 1, 1) := by decide +kernel
theorem dL_law_680 : decode cL_law 680 = .ok (.iadd, 1) := by decide +kernel
theorem dL_law_681 : decode cL_law 681 = .ok (.iaload, 1) := by decide +kernel
theorem dL_law_682 : decode cL_law 682 = .ok (.aload_n 0, 1) := by decide +kernel
theorem dL_law_683 : decode cL_law 683 = .ok (.iload 4, 2) := by decide +kernel
theorem dL_law_685 : decode cL_law 685 = .ok (.iconst 2, 1) := by decide +kernel
theorem dL_law_686 : decode cL_law 686 = .ok (.iadd, 1) := by decide +kernel
theorem dL_law_687 : decode cL_law 687 = .ok (.iaload, 1) := by decide +kernel
theorem dL_law_688 : decode cL_law 688 = .ok (.invokevirtual 99, 3) := by decide +kernel
theorem dL_law_691 : decode cL_law 691 = .ok (.istore 6, 2) := by decide +kernel
theorem dL_law_693 : decode cL_law 693 = .ok (.aload_n 2, 1) := by decide +kernel
theorem dL_law_694 : decode cL_law 694 = .ok (.invokevirtual 70, 3) := by decide +kernel
theorem dL_law_697 : decode cL_law 697 = .ok (.iload 5, 2) := by decide +kernel
theorem dL_law_699 : decode cL_law 699 = .ok (.if_icmp .eq 5, 3) := by decide +kernel
theorem dL_law_702 : decode cL_law 702 = .ok (.iconst 0, 1) := by decide +kernel
theorem dL_law_703 : decode cL_law 703 = .ok (.ireturn, 1) := by decide +kernel
theorem dL_law_704 : decode cL_law 704 = .ok (.iload 5, 2) := by decide +kernel
theorem dL_law_706 : decode cL_law 706 = .ok (.ifCond .ne 15, 3) := by decide +kernel
theorem dL_law_709 : decode cL_law 709 = .ok (.aload_n 3, 1) := by decide +kernel
theorem dL_law_710 : decode cL_law 710 = .ok (.iconst 0, 1) := by decide +kernel
theorem dL_law_711 : decode cL_law 711 = .ok (.laload, 1) := by decide +kernel
theorem dL_law_712 : decode cL_law 712 = .ok (.iload 6, 2) := by decide +kernel
theorem dL_law_714 : decode cL_law 714 = .ok (.i2l, 1) := by decide +kernel
theorem dL_law_715 : decode cL_law 715 = .ok (.lcmp, 1) := by decide +kernel
theorem dL_law_716 : decode cL_law 716 = .ok (.ifCond .eq 5, 3) := by decide +kernel
theorem dL_law_719 : decode cL_law 719 = .ok (.iconst 0, 1) := by decide +kernel
theorem dL_law_720 : decode cL_law 720 = .ok (.ireturn, 1) := by decide +kernel
theorem dL_law_721 : decode cL_law 721 = .ok (.goto 412, 3) := by decide +kernel
theorem dL_law_724 : decode cL_law 724 = .ok (.aload_n 1, 1) := by decide +kernel
theorem dL_law_725 : decode cL_law 725 = .ok (.aload_n 0, 1) := by decide +kernel
theorem dL_law_726 : decode cL_law 726 = .ok (.iload 4, 2) := by decide +kernel
theorem dL_law_728 : decode cL_law 728 = .ok (.iconst 1, 1) := by decide +kernel
theorem dL_law_729 : decode cL_law 729 = .ok (.iadd, 1) := by decide +kernel
theorem dL_law_730 : decode cL_law 730 = .ok (.iaload, 1) := by decide +kernel
theorem dL_law_731 : decode cL_law 731 = .ok (.aload_n 3, 1) := by decide +kernel
theorem dL_law_732 : decode cL_law 732 = .ok (.invokestatic 100, 3) := by decide +kernel
theorem dL_law_735 : decode cL_law 735 = .ok (.istore 5, 2) := by decide +kernel
theorem dL_law_737 : decode cL_law 737 = .ok (.aload_n 2, 1) := by decide +kernel
theorem dL_law_738 : decode cL_law 738 = .ok (.aload_n 0, 1) := by decide +kernel
theorem dL_law_739 : decode cL_law 739 = .ok (.iload 4, 2) := by decide +kernel
theorem dL_law_741 : decode cL_law 741 = .ok (.iconst 1, 1) := by decide +kernel
theorem dL_law_742 : decode cL_law 742 = .ok (.iadd, 1) := by decide +kernel
theorem dL_law_743 : decode cL_law 743 = .ok (.iaload, 1) := by decide +kernel
theorem dL_law_744 : decode cL_law 744 = .ok (.invokevirtual 102, 3) := by decide +kernel
theorem dL_law_747 : decode cL_law 747 = .ok (.istore 6, 2) := by decide +kernel
theorem dL_law_749 : decode cL_law 749 = .ok (.aload_n 2, 1) := by decide +kernel
theorem dL_law_750 : decode cL_law 750 = .ok (.invokevirtual 70, 3) := by decide +kernel
theorem dL_law_753 : decode cL_law 753 = .ok (.iload 5, 2) := by decide +kernel
theorem dL_law_755 : decode cL_law 755 = .ok (.if_icmp .eq 5, 3) := by decide +kernel
theorem dL_law_758 : decode cL_law 758 = .ok (.iconst 0, 1) := by decide +kernel
theorem dL_law_759 : decode cL_law 759 = .ok (.ireturn, 1) := by decide +kernel
theorem dL_law_760 : decode cL_law 760 = .ok (.iload 5, 2) := by decide +kernel
theorem dL_law_762 : decode cL_law 762 = .ok (.ifCond .ne 15, 3) := by decide +kernel
theorem dL_law_765 : decode cL_law 765 = .ok (.aload_n 3, 1) := by decide +kernel
theorem dL_law_766 : decode cL_law 766 = .ok (.iconst 0, 1) := by decide +kernel
theorem dL_law_767 : decode cL_law 767 = .ok (.laload, 1) := by decide +kernel
theorem dL_law_768 : decode cL_law 768 = .ok (.iload 6, 2) := by decide +kernel
theorem dL_law_770 : decode cL_law 770 = .ok (.i2l, 1) := by decide +kernel
theorem dL_law_771 : decode cL_law 771 = .ok (.lcmp, 1) := by decide +kernel
theorem dL_law_772 : decode cL_law 772 = .ok (.ifCond .eq 5, 3) := by decide +kernel
theorem dL_law_775 : decode cL_law 775 = .ok (.iconst 0, 1) := by decide +kernel
theorem dL_law_776 : decode cL_law 776 = .ok (.ireturn, 1) := by decide +kernel
theorem dL_law_777 : decode cL_law 777 = .ok (.goto 356, 3) := by decide +kernel
theorem dL_law_780 : decode cL_law 780 = .ok (.aload_n 1, 1) := by decide +kernel
theorem dL_law_781 : decode cL_law 781 = .ok (.aload_n 0, 1) := by decide +kernel
theorem dL_law_782 : decode cL_law 782 = .ok (.iload 4, 2) := by decide +kernel
theorem dL_law_784 : decode cL_law 784 = .ok (.iconst 1, 1) := by decide +kernel
theorem dL_law_785 : decode cL_law 785 = .ok (.iadd, 1) := by decide +kernel
theorem dL_law_786 : decode cL_law 786 = .ok (.iaload, 1) := by decide +kernel
theorem dL_law_787 : decode cL_law 787 = .ok (.aload_n 0, 1) := by decide +kernel
theorem dL_law_788 : decode cL_law 788 = .ok (.iload 4, 2) := by decide +kernel
theorem dL_law_790 : decode cL_law 790 = .ok (.iconst 2, 1) := by decide +kernel
theorem dL_law_791 : decode cL_law 791 = .ok (.iadd, 1) := by decide +kernel
theorem dL_law_792 : decode cL_law 792 = .ok (.iaload, 1) := by decide +kernel
theorem dL_law_793 : decode cL_law 793 = .ok (.aload_n 3, 1) := by decide +kernel
theorem dL_law_794 : decode cL_law 794 = .ok (.invokestatic 103, 3) := by decide +kernel
theorem dL_law_797 : decode cL_law 797 = .ok (.istore 5, 2) := by decide +kernel
theorem dL_law_799 : decode cL_law 799 = .ok (.aload_n 2, 1) := by decide +kernel
theorem dL_law_800 : decode cL_law 800 = .ok (.aload_n 0, 1) := by decide +kernel
theorem dL_law_801 : decode cL_law 801 = .ok (.iload 4, 2) := by decide +kernel
end
section
theorem dL_law_803 : decode cL_law 803 = .ok (.iconst 1, 1) := by decide +kernel
theorem dL_law_804 : decode cL_law 804 = .ok (.iadd, 1) := by decide +kernel
theorem dL_law_805 : decode cL_law 805 = .ok (.iaload, 1) := by decide +kernel
theorem dL_law_806 : decode cL_law 806 = .ok (.aload_n 0, 1) := by decide +kernel
theorem dL_law_807 : decode cL_law 807 = .ok (.iload 4, 2) := by decide +kernel
theorem dL_law_809 : decode cL_law 809 = .ok (.iconst 2, 1) := by decide +kernel
theorem dL_law_810 : decode cL_law 810 = .ok (.iadd, 1) := by decide +kernel
theorem dL_law_811 : decode cL_law 811 = .ok (.iaload, 1) := by decide +kernel
theorem dL_law_812 : decode cL_law 812 = .ok (.invokevirtual 105, 3) := by decide +kernel
theorem dL_law_815 : decode cL_law 815 = .ok (.istore 6, 2) := by decide +kernel
theorem dL_law_817 : decode cL_law 817 = .ok (.aload_n 2, 1) := by decide +kernel
theorem dL_law_818 : decode cL_law 818 = .ok (.invokevirtual 70, 3) := by decide +kernel
theorem dL_law_821 : decode cL_law 821 = .ok (.iload 5, 2) := by decide +kernel
theorem dL_law_823 : decode cL_law 823 = .ok (.if_icmp .eq 5, 3) := by decide +kernel
theorem dL_law_826 : decode cL_law 826 = .ok (.iconst 0, 1) := by decide +kernel
theorem dL_law_827 : decode cL_law 827 = .ok (.ireturn, 1) := by decide +kernel
theorem dL_law_828 : decode cL_law 828 = .ok (.iload 5, 2) := by decide +kernel
theorem dL_law_830 : decode cL_law 830 = .ok (.ifCond .ne 15, 3) := by decide +kernel
theorem dL_law_833 : decode cL_law 833 = .ok (.aload_n 3, 1) := by decide +kernel
theorem dL_law_834 : decode cL_law 834 = .ok (.iconst 0, 1) := by decide +kernel
theorem dL_law_835 : decode cL_law 835 = .ok (.laload, 1) := by decide +kernel
theorem dL_law_836 : decode cL_law 836 = .ok (.iload 6, 2) := by decide +kernel
theorem dL_law_838 : decode cL_law 838 = .ok (.i2l, 1) := by decide +kernel
theorem dL_law_839 : decode cL_law 839 = .ok (.lcmp, 1) := by decide +kernel
theorem dL_law_840 : decode cL_law 840 = .ok (.ifCond .eq 5, 3) := by decide +kernel
theorem dL_law_843 : decode cL_law 843 = .ok (.iconst 0, 1) := by decide +kernel
theorem dL_law_844 : decode cL_law 844 = .ok (.ireturn, 1) := by decide +kernel
theorem dL_law_845 : decode cL_law 845 = .ok (.goto 288, 3) := by decide +kernel
theorem dL_law_848 : decode cL_law 848 = .ok (.aload_n 1, 1) := by decide +kernel
theorem dL_law_849 : decode cL_law 849 = .ok (.aload_n 0, 1) := by decide +kernel
theorem dL_law_850 : decode cL_law 850 = .ok (.iload 4, 2) := by decide +kernel
theorem dL_law_852 : decode cL_law 852 = .ok (.iconst 1, 1) := by decide +kernel
theorem dL_law_853 : decode cL_law 853 = .ok (.iadd, 1) := by decide +kernel
theorem dL_law_854 : decode cL_law 854 = .ok (.iaload, 1) := by decide +kernel
theorem dL_law_855 : decode cL_law 855 = .ok (.aload_n 3, 1) := by decide +kernel
theorem dL_law_856 : decode cL_law 856 = .ok (.invokestatic 106, 3) := by decide +kernel
theorem dL_law_859 : decode cL_law 859 = .ok (.istore 5, 2) := by decide +kernel
theorem dL_law_861 : decode cL_law 861 = .ok (.aload_n 2, 1) := by decide +kernel
theorem dL_law_862 : decode cL_law 862 = .ok (.aload_n 0, 1) := by decide +kernel
theorem dL_law_863 : decode cL_law 863 = .ok (.iload 4, 2) := by decide +kernel
theorem dL_law_865 : decode cL_law 865 = .ok (.iconst 1, 1) := by decide +kernel
theorem dL_law_866 : decode cL_law 866 = .ok (.iadd, 1) := by decide +kernel
theorem dL_law_867 : decode cL_law 867 = .ok (.iaload, 1) := by decide +kernel
theorem dL_law_868 : decode cL_law 868 = .ok (.invokevirtual 108, 3) := by decide +kernel
theorem dL_law_871 : decode cL_law 871 = .ok (.istore 6, 2) := by decide +kernel
theorem dL_law_873 : decode cL_law 873 = .ok (.aload_n 2, 1) := by decide +kernel
theorem dL_law_874 : decode cL_law 874 = .ok (.invokevirtual 70, 3) := by decide +kernel
theorem dL_law_877 : decode cL_law 877 = .ok (.iload 5, 2) := by decide +kernel
theorem dL_law_879 : decode cL_law 879 = .ok (.if_icmp .eq 5, 3) := by decide +kernel
theorem dL_law_882 : decode cL_law 882 = .ok (.iconst 0, 1) := by decide +kernel
theorem dL_law_883 : decode cL_law 883 = .ok (.ireturn, 1) := by decide +kernel
theorem dL_law_884 : decode cL_law 884 = .ok (.iload 5, 2) := by decide +kernel
theorem dL_law_886 : decode cL_law 886 = .ok (.ifCond .ne 15, 3) := by decide +kernel
theorem dL_law_889 : decode cL_law 889 = .ok (.aload_n 3, 1) := by decide +kernel
theorem dL_law_890 : decode cL_law 890 = .ok (.iconst 0, 1) := by decide +kernel
theorem dL_law_891 : decode cL_law 891 = .ok (.laload, 1) := by decide +kernel
theorem dL_law_892 : decode cL_law 892 = .ok (.iload 6, 2) := by decide +kernel
theorem dL_law_894 : decode cL_law 894 = .ok (.i2l, 1) := by decide +kernel
theorem dL_law_895 : decode cL_law 895 = .ok (.lcmp, 1) := by decide +kernel
theorem dL_law_896 : decode cL_law 896 = .ok (.ifCond .eq 5, 3) := by decide +kernel
theorem dL_law_899 : decode cL_law 899 = .ok (.iconst 0, 1) := by decide +kernel
theorem dL_law_900 : decode cL_law 900 = .ok (.ireturn, 1) := by decide +kernel
theorem dL_law_901 : decode cL_law 901 = .ok (.goto 232, 3) := by decide +kernel
theorem dL_law_904 : decode cL_law 904 = .ok (.aload_n 1, 1) := by decide +kernel
theorem dL_law_905 : decode cL_law 905 = .ok (.aload_n 0, 1) := by decide +kernel
theorem dL_law_906 : decode cL_law 906 = .ok (.iload 4, 2) := by decide +kernel
theorem dL_law_908 : decode cL_law 908 = .ok (.iconst 1, 1) := by decide +kernel
theorem dL_law_909 : decode cL_law 909 = .ok (.iadd, 1) := by decide +kernel
theorem dL_law_910 : decode cL_law 910 = .ok (.iaload, 1) := by decide +kernel
theorem dL_law_911 : decode cL_law 911 = .ok (.aload_n 0, 1) := by decide +kernel
theorem dL_law_912 : decode cL_law 912 = .ok (.iload 4, 2) := by decide +kernel
theorem dL_law_914 : decode cL_law 914 = .ok (.iconst 2, 1) := by decide +kernel
theorem dL_law_915 : decode cL_law 915 = .ok (.iadd, 1) := by decide +kernel
theorem dL_law_916 : decode cL_law 916 = .ok (.iaload, 1) := by decide +kernel
theorem dL_law_917 : decode cL_law 917 = .ok (.aload_n 3, 1) := by decide +kernel
theorem dL_law_918 : decode cL_law 918 = .ok (.invokestatic 109, 3) := by decide +kernel
theorem dL_law_921 : decode cL_law 921 = .ok (.istore 5, 2) := by decide +kernel
theorem dL_law_923 : decode cL_law 923 = .ok (.aload_n 2, 1) := by decide +kernel
theorem dL_law_924 : decode cL_law 924 = .ok (.aload_n 0, 1) := by decide +kernel
theorem dL_law_925 : decode cL_law 925 = .ok (.iload 4, 2) := by decide +kernel
theorem dL_law_927 : decode cL_law 927 = .ok (.iconst 1, 1) := by decide +kernel
theorem dL_law_928 : decode cL_law 928 = .ok (.iadd, 1) := by decide +kernel
theorem dL_law_929 : decode cL_law 929 = .ok (.iaload, 1) := by decide +kernel
theorem dL_law_930 : decode cL_law 930 = .ok (.aload_n 0, 1) := by decide +kernel
theorem dL_law_931 : decode cL_law 931 = .ok (.iload 4, 2) := by decide +kernel
theorem dL_law_933 : decode cL_law 933 = .ok (.iconst 2, 1) := by decide +kernel
theorem dL_law_934 : decode cL_law 934 = .ok (.iadd, 1) := by decide +kernel
theorem dL_law_935 : decode cL_law 935 = .ok (.iaload, 1) := by decide +kernel
theorem dL_law_936 : decode cL_law 936 = .ok (.invokevirtual 111, 3) := by decide +kernel
theorem dL_law_939 : decode cL_law 939 = .ok (.istore 6, 2) := by decide +kernel
theorem dL_law_941 : decode cL_law 941 = .ok (.aload_n 2, 1) := by decide +kernel
theorem dL_law_942 : decode cL_law 942 = .ok (.invokevirtual 70, 3) := by decide +kernel
theorem dL_law_945 : decode cL_law 945 = .ok (.iload 5, 2) := by decide +kernel
theorem dL_law_947 : decode cL_law 947 = .ok (.if_icmp .eq 5, 3) := by decide +kernel
theorem dL_law_950 : decode cL_law 950 = .ok (.iconst 0, 1) := by decide +kernel
theorem dL_law_951 : decode cL_law 951 = .ok (.ireturn, 1) := by decide +kernel
theorem dL_law_952 : decode cL_law 952 = .ok (.iload 5, 2) := by decide +kernel
theorem dL_law_954 : decode cL_law 954 = .ok (.ifCond .ne 15, 3) := by decide +kernel
theorem dL_law_957 : decode cL_law 957 = .ok (.aload_n 3, 1) := by decide +kernel
theorem dL_law_958 : decode cL_law 958 = .ok (.iconst 0, 1) := by decide +kernel
theorem dL_law_959 : decode cL_law 959 = .ok (.laload, 1) := by decide +kernel
theorem dL_law_960 : decode cL_law 960 = .ok (.iload 6, 2) := by decide +kernel
theorem dL_law_962 : decode cL_law 962 = .ok (.i2l, 1) := by decide +kernel
theorem dL_law_963 : decode cL_law 963 = .ok (.lcmp, 1) := by decide +kernel
theorem dL_law_964 : decode cL_law 964 = .ok (.ifCond .eq 5, 3) := by decide +kernel
theorem dL_law_967 : decode cL_law 967 = .ok (.iconst 0, 1) := by decide +kernel
theorem dL_law_968 : decode cL_law 968 = .ok (.ireturn, 1) := by decide +kernel
theorem dL_law_969 : decode cL_law 969 = .ok (.goto 164, 3) := by decide +kernel
theorem dL_law_972 : decode cL_law 972 = .ok (.aload_n 1, 1) := by decide +kernel
theorem dL_law_973 : decode cL_law 973 = .ok (.invokevirtual 112, 3) := by decide +kernel
theorem dL_law_976 : decode cL_law 976 = .ok (.aload_n 2, 1) := by decide +kernel
theorem dL_law_977 : decode cL_law 977 = .ok (.invokevirtual 115, 3) := by decide +kernel
theorem dL_law_980 : decode cL_law 980 = .ok (.if_icmp .eq 153, 3) := by decide +kernel
theorem dL_law_983 : decode cL_law 983 = .ok (.iconst 0, 1) := by decide +kernel
theorem dL_law_984 : decode cL_law 984 = .ok (.ireturn, 1) := by decide +kernel
theorem dL_law_985 : decode cL_law 985 = .ok (.aload_n 1, 1) := by decide +kernel
theorem dL_law_986 : decode cL_law 986 = .ok (.invokevirtual 116, 3) := by decide +kernel
theorem dL_law_989 : decode cL_law 989 = .ok (.aload_n 2, 1) := by decide +kernel
theorem dL_law_990 : decode cL_law 990 = .ok (.invokevirtual 119, 3) := by decide +kernel
theorem dL_law_993 : decode cL_law 993 = .ok (.if_icmp .eq 140, 3) := by decide +kernel
theorem dL_law_996 : decode cL_law 996 = .ok (.iconst 0, 1) := by decide +kernel
theorem dL_law_997 : decode cL_law 997 = .ok (.ireturn, 1) := by decide +kernel
theorem dL_law_998 : decode cL_law 998 = .ok (.aload_n 1, 1) := by decide +kernel
theorem dL_law_999 : decode cL_law 999 = .ok (.aload_n 0, 1) := by decide +kernel
theorem dL_law_1000 : decode cL_law 1000 = .ok (.iload 4, 2) := by decide +kernel
theorem dL_law_1002 : decode cL_law 1002 = .ok (.iconst 1, 1) := by decide +kernel
theorem dL_law_1003 : decode cL_law 1003 = .ok (.iadd, 1) := by decide +kernel
theorem dL_law_1004 : decode cL_law 1004 = .ok (.iaload, 1) := by decide +kernel
theorem dL_law_1005 : decode cL_law 1005 = .ok (.aload_n 0, 1) := by decide +kernel
theorem dL_law_1006 : decode cL_law 1006 = .ok (.iload 4, 2) := by decide +kernel
theorem dL_law_1008 : decode cL_law 1008 = .ok (.iconst 2, 1) := by decide +kernel
theorem dL_law_1009 : decode cL_law 1009 = .ok (.iadd, 1) := by decide +kernel
theorem dL_law_1010 : decode cL_law 1010 = .ok (.iaload, 1) := by decide +kernel
theorem dL_law_1011 : decode cL_law 1011 = .ok (.aload_n 0, 1) := by decide +kernel
theorem dL_law_1012 : decode cL_law 1012 = .ok (.iload 4, 2) := by decide +kernel
theorem dL_law_1014 : decode cL_law 1014 = .ok (.iconst 3, 1) := by decide +kernel
theorem dL_law_1015 : decode cL_law 1015 = .ok (.iadd, 1) := by decide +kernel
theorem dL_law_1016 : decode cL_law 1016 = .ok (.iaload, 1) := by decide +kernel
theorem dL_law_1017 : decode cL_law 1017 = .ok (.aload_n 3, 1) := by decide +kernel
theorem dL_law_1018 : decode cL_law 1018 = .ok (.invokestatic 120, 3) := by decide +kernel
theorem dL_law_1021 : decode cL_law 1021 = .ok (.istore 5, 2) := by decide +kernel
theorem dL_law_1023 : decode cL_law 1023 = .ok (.aload_n 2, 1) := by decide +kernel
theorem dL_law_1024 : decode cL_law 1024 = .ok (.aload_n 0, 1) := by decide +kernel
theorem dL_law_1025 : decode cL_law 1025 = .ok (.iload 4, 2) := by decide +kernel
theorem dL_law_1027 : decode cL_law 1027 = .ok (.iconst 1, 1) := by decide +kernel
theorem dL_law_1028 : decode cL_law 1028 = .ok (.iadd, 1) := by decide +kernel
theorem dL_law_1029 : decode cL_law 1029 = .ok (.iaload, 1) := by decide +kernel
theorem dL_law_1030 : decode cL_law 1030 = .ok (.aload_n 0, 1) := by decide +kernel
theorem dL_law_1031 : decode cL_law 1031 = .ok (.iload 4, 2) := by decide +kernel
theorem dL_law_1033 : decode cL_law 1033 = .ok (.iconst 2, 1) := by decide +kernel
theorem dL_law_1034 : decode cL_law 1034 = .ok (.iadd, 1) := by decide +kernel
theorem dL_law_1035 : decode cL_law 1035 = .ok (.iaload, 1) := by decide +kernel
theorem dL_law_1036 : decode cL_law 1036 = .ok (.aload_n 0, 1) := by decide +kernel
theorem dL_law_1037 : decode cL_law 1037 = .ok (.iload 4, 2) := by decide +kernel
theorem dL_law_1039 : decode cL_law 1039 = .ok (.iconst 3, 1) := by decide +kernel
theorem dL_law_1040 : decode cL_law 1040 = .ok (.iadd, 1) := by decide +kernel
theorem dL_law_1041 : decode cL_law 1041 = .ok (.iaload, 1) := by decide +kernel
theorem dL_law_1042 : decode cL_law 1042 = .ok (.invokevirtual 122, 3) := by decide +kernel
theorem dL_law_1045 : decode cL_law 1045 = .ok (.istore 6, 2) := by decide +kernel
theorem dL_law_1047 : decode cL_law 1047 = .ok (.aload_n 2, 1) := by decide +kernel
theorem dL_law_1048 : decode cL_law 1048 = .ok (.invokevirtual 70, 3) := by decide +kernel
theorem dL_law_1051 : decode cL_law 1051 = .ok (.iload 5, 2) := by decide +kernel
theorem dL_law_1053 : decode cL_law 1053 = .ok (.if_icmp .eq 5, 3) := by decide +kernel
theorem dL_law_1056 : decode cL_law 1056 = .ok (.iconst 0, 1) := by decide +kernel
theorem dL_law_1057 : decode cL_law 1057 = .ok (.ireturn, 1) := by decide +kernel
theorem dL_law_1058 : decode cL_law 1058 = .ok (.iload 5, 2) := by decide +kernel
theorem dL_law_1060 : decode cL_law 1060 = .ok (.ifCond .ne 15, 3) := by decide +kernel
theorem dL_law_1063 : decode cL_law 1063 = .ok (.aload_n 3, 1) := by decide +kernel
theorem dL_law_1064 : decode cL_law 1064 = .ok (.iconst 0, 1) := by decide +kernel
theorem dL_law_1065 : decode cL_law 1065 = .ok (.laload, 1) := by decide +kernel
theorem dL_law_1066 : decode cL_law 1066 = .ok (.iload 6, 2) := by decide +kernel
theorem dL_law_1068 : decode cL_law 1068 = .ok (.i2l, 1) := by decide +kernel
theorem dL_law_1069 : decode cL_law 1069 = .ok (.lcmp, 1) := by decide +kernel
theorem dL_law_1070 : decode cL_law 1070 = .ok (.ifCond .eq 5, 3) := by decide +kernel
theorem dL_law_1073 : decode cL_law 1073 = .ok (.iconst 0, 1) := by decide +kernel
theorem dL_law_1074 : decode cL_law 1074 = .ok (.ireturn, 1) := by decide +kernel
theorem dL_law_1075 : decode cL_law 1075 = .ok (.goto 58, 3) := by decide +kernel
theorem dL_law_1078 : decode cL_law 1078 = .ok (.aload_n 1, 1) := by decide +kernel
theorem dL_law_1079 : decode cL_law 1079 = .ok (.invokevirtual 123, 3) := by decide +kernel
theorem dL_law_1082 : decode cL_law 1082 = .ok (.dstore 5, 2) := by decide +kernel
theorem dL_law_1084 : decode cL_law 1084 = .ok (.aload_n 2, 1) := by decide +kernel
theorem dL_law_1085 : decode cL_law 1085 = .ok (.invokevirtual 127, 3) := by decide +kernel
theorem dL_law_1088 : decode cL_law 1088 = .ok (.dstore 7, 2) := by decide +kernel
theorem dL_law_1090 : decode cL_law 1090 = .ok (.dload 5, 2) := by decide +kernel
theorem dL_law_1092 : decode cL_law 1092 = .ok (.dload 7, 2) := by decide +kernel
theorem dL_law_1094 : decode cL_law 1094 = .ok (.dcmp .l, 1) := by decide +kernel
theorem dL_law_1095 : decode cL_law 1095 = .ok (.ifCond .eq 21, 3) := by decide +kernel
theorem dL_law_1098 : decode cL_law 1098 = .ok (.dload 5, 2) := by decide +kernel
theorem dL_law_1100 : decode cL_law 1100 = .ok (.dload 5, 2) := by decide +kernel
theorem dL_law_1102 : decode cL_law 1102 = .ok (.dcmp .l, 1) := by decide +kernel
theorem dL_law_1103 : decode cL_law 1103 = .ok (.ifCond .eq 11, 3) := by decide +kernel
theorem dL_law_1106 : decode cL_law 1106 = .ok (.dload 7, 2) := by decide +kernel
theorem dL_law_1108 : decode cL_law 1108 = .ok (.dload 7, 2) := by decide +kernel
theorem dL_law_1110 : decode cL_law 1110 = .ok (.dcmp .l, 1) := by decide +kernel
theorem dL_law_1111 : decode cL_law 1111 = .ok (.ifCond .ne 5, 3) := by decide +kernel
theorem dL_law_1114 : decode cL_law 1114 = .ok (.iconst 0, 1) := by decide +kernel
theorem dL_law_1115 : decode cL_law 1115 = .ok (.ireturn, 1) := by decide +kernel
theorem dL_law_1116 : decode cL_law 1116 = .ok (.goto 17, 3) := by decide +kernel
theorem dL_law_1119 : decode cL_law 1119 = .ok (.aload_n 1, 1) := by decide +kernel
theorem dL_law_1120 : decode cL_law 1120 = .ok (.invokevirtual 128, 3) := by decide +kernel
theorem dL_law_1123 : decode cL_law 1123 = .ok (.aload_n 2, 1) := by decide +kernel
theorem dL_law_1124 : decode cL_law 1124 = .ok (.invokevirtual 132, 3) := by decide +kernel
theorem dL_law_1127 : decode cL_law 1127 = .ok (.lcmp, 1) := by decide +kernel
theorem dL_law_1128 : decode cL_law 1128 = .ok (.ifCond .eq 5, 3) := by decide +kernel
theorem dL_law_1131 : decode cL_law 1131 = .ok (.iconst 0, 1) := by decide +kernel
theorem dL_law_1132 : decode cL_law 1132 = .ok (.ireturn, 1) := by decide +kernel
theorem dL_law_1133 : decode cL_law 1133 = .ok (.iinc 4 4, 3) := by decide +kernel
theorem dL_law_1136 : decode cL_law 1136 = .ok (.goto (-1113), 3) := by decide +kernel
theorem dL_law_1139 : decode cL_law 1139 = .ok (.iconst 1, 1) := by decide +kernel
theorem dL_law_1140 : decode cL_law 1140 = .ok (.ireturn, 1) := by decide +kernel
abbrev vwCl : List vw_C := [(RX0, TX0, 7), (RX1, TX1, 2), (RX2, TX2, 7), (RX3, TX3, 3), (RX4, TX4, 7)]
end
section
/-! base: what every contract here starts from and ends in; the rows of a call that only reads, and of one that writes its own world -/
abbrev TY (cI cW : ClassId) : List (ClassId × FieldType) := [(cI, .int), (cW, .object "WidowPennies$Widow")]
/-- what the tables say, wherever we are -/
def KK (dC : Nat → ClassId) (dI : Nat → Nat → Nat) (cI cW : ClassId) (U : State) : Prop :=
  va_K (dC, dI) vwCl (TY cI cW) U ∧ va_Nw (.methodLinkNest RX1 18 yX3_isAge RX3) U ∧ va_Nw (.methodLinkNest RX0 21 yX2_init RX3) U
theorem KK.warm {dC : Nat → ClassId} {dI : Nat → Nat → Nat} {cI cW : ClassId} {s U : State} (hW : s.WarmedH U.vm) (h : KK dC dI cI cW s) : KK dC dI cI cW U :=
  ⟨va_K.moved hW.alike h.1, va_Nw.warmM hW h.2.1, va_Nw.warmM hW h.2.2⟩
theorem KK.calling {dC : Nat → ClassId} {dI : Nat → Nat → Nat} {cI cW : ClassId} {U : State} (g : JFrame) (mk : MethodId) (a : Array Value) (h : KK dC dI cI cW U) : KK dC dI cI cW (U.calling g mk a) :=
  ⟨va_K.moved (u := U) (U := U.calling g mk a) (Vm.Alike.refl U.vm) h.1, va_Nw.same rfl rfl h.2.1, va_Nw.same rfl rfl h.2.2⟩
def Pre0 (dC : Nat → ClassId) (dI : Nat → Nat → Nat) (cI cW : ClassId) (av : List Value) (ws : va_W) : Array Value → State → Prop :=
  va_Pc av (fun U => va_P (dC, dI) vwCl ws U.heap ∧ KK dC dI cI cW U)
theorem Pre0_blind {dC : Nat → ClassId} {dI : Nat → Nat → Nat} {cI cW : ClassId} {av : List Value} {ws : va_W} : FrameBlind (Pre0 dC dI cI cW av ws) :=
  fun a U g mk h => ⟨h.1, h.2.1, h.2.2.calling g mk a⟩
def Pre1 (dC : Nat → ClassId) (dI : Nat → Nat → Nat) (cI cW : ClassId) (av : List Value) (ws : va_W) (sz : Nat) : Array Value → State → Prop :=
  va_Pc av (fun U => U.heap.size = sz ∧ va_P (dC, dI) vwCl ws U.heap ∧ va_D (fun _ => True) ws ∧ KK dC dI cI cW U)
theorem Pre1_blind {dC : Nat → ClassId} {dI : Nat → Nat → Nat} {cI cW : ClassId} {av : List Value} {ws : va_W} {sz : Nat} : FrameBlind (Pre1 dC dI cI cW av ws sz) :=
  fun a U g mk h => ⟨h.1, h.2.1, h.2.2.1, h.2.2.2.1, h.2.2.2.2.calling g mk a⟩
/-- the end of a method that writes its own world -/
abbrev Qv1 (dC : Nat → ClassId) (dI : Nat → Nat → Nat) (ws ws' : va_W) (sz : Nat) : Array Value → State → Outcome → State → Prop :=
  va_Qv (fun _ : Unit => True) (fun _ t => va_P (dC, dI) vwCl ws' t.heap ∧ va_D (va_A ws sz) ws') (va_A ws sz)
abbrev Qi1 (dC : Nat → ClassId) (dI : Nat → Nat → Nat) (post : Int32 → Prop) (ws ws' : va_W) (sz : Nat) : Array Value → State → Outcome → State → Prop :=
  va_Qi (fun (r : Int32) (_ : Unit) => post r) (fun _ t => va_P (dC, dI) vwCl ws' t.heap ∧ va_D (va_A ws sz) ws') (va_A ws sz)
theorem free_all {A0 : Nat → Prop} {ws : va_W} {H0 H : Heap} {locs : List Loc} (hD : va_D A0 ws) (hS : va_S A0 H0 H locs) (hA : ∀ q, H0.size ≤ q → A0 q) : ∀ q, va_A ws H.size q → A0 q := by
  intro q h
  rcases h with ⟨k, e, h⟩ | h
  · exact hD.2 k (q, e) h
  · exact hA q (Nat.le_trans hS.1 h)
theorem set_at {ws : va_W} {q0 : Nat} {e0 e : Nat × va_E} (h : ws[q0]? = some e0) : (ws.set q0 e)[q0]? = some e := by
  have hl : q0 < ws.length := (List.getElem?_eq_some_iff.mp h).1
  simp [hl]
theorem ws_left {D : va_G} {cl : List vw_C} {a b : va_W} {H : Heap} (h : va_P D cl (a ++ b) H) : va_P D cl a H := fun k q hk => h k q (by
  have hl : k < a.length := (List.getElem?_eq_some_iff.mp hk).1
  rw [List.getElem?_append_left hl]; exact hk)
theorem ws_right {D : va_G} {cl : List vw_C} {a b : va_W} {H : Heap} (h : va_P D cl (a ++ b) H) : va_P D cl b H := fun k q hk => h (a.length + k) q (by
  rw [List.getElem?_append_right (by omega), show a.length + k - a.length = k by omega]; exact hk)
theorem ws_one {D : va_G} {cl : List vw_C} {ws : va_W} {H : Heap} {i : Nat} {x : Nat × va_E} (h : va_P D cl ws H) (hi : ws[i]? = some x) : va_P D cl [x] H := fun k q hk => by
  have hz : k < 1 := (List.getElem?_eq_some_iff.mp hk).1
  rw [show k = 0 by omega] at hk
  cases hk
  exact h i _ hi
section RD
variable {p : Program} {l : Launch} {e : Env} {R : Room} {s : State} {m : MethodId} {args : Array Value} {below : List Frame} {meth : Method} {c : Code} {H : Heap} {locs : List Loc} {cells slots : Nat} {Q : State → Prop}
variable {cc bytes : ByteArray} {pc nL maxL n index : Nat} {ls : Array Slot} {rest st0 As : List Value} {a : Array Value}
variable {dC : Nat → ClassId} {dI : Nat → Nat → Nat} {cI cW : ClassId} {Ts ws : List Cond} {own C host : String} {y : MethodName} {ret : Option FieldType} {rm : Room} {b : Addr} {wc : va_W}
theorem rd_i {post : Int32 → Prop} (hr : va_Run p l e R s m args below meth c H locs cells slots 0 0 (F0 m pc ls st0) rest (vp_Si post a) (fun _ => False))
    (kk : ∀ r : Int32, post r → W p l e R s m args below meth c H locs cells slots Q (F0 m (pc + 3) ls (.int r :: rest))) : W p l e R s m args below meth c H locs cells slots Q (F0 m pc ls st0) := by
  intro T hT X
  obtain ⟨v, st₀, t, T', L, h0, X', hL, e1, -, ⟨r, hv, hp, hh⟩, st⟩ := hr T hT X
  cases hv
  obtain ⟨t2, a1, b1⟩ := kk r hp T' (by rw [e1, hh, h0]) (Stand.forget X' (fun q h => (hL q h).elim))
  exact ⟨t2, st t2 a1, b1⟩
theorem rd_l {post : Int64 → Prop} (hr : va_Run p l e R s m args below meth c H locs cells slots 0 0 (F0 m pc ls st0) rest (vp_Sl post a) (fun _ => False))
    (kk : ∀ r : Int64, post r → W p l e R s m args below meth c H locs cells slots Q (F0 m (pc + 3) ls (.long r :: rest))) : W p l e R s m args below meth c H locs cells slots Q (F0 m pc ls st0) := by
  intro T hT X
  obtain ⟨v, st₀, t, T', L, h0, X', hL, e1, -, ⟨r, hv, hp, hh⟩, st⟩ := hr T hT X
  cases hv
  obtain ⟨t2, a1, b1⟩ := kk r hp T' (by rw [e1, hh, h0]) (Stand.forget X' (fun q h => (hL q h).elim))
  exact ⟨t2, st t2 a1, b1⟩
/-- a method that reads only and hands back a cell that is there -/
def Sr0 (post : Nat → Prop) : Array Value → State → Outcome → State → Prop := fun _ st o t => ∃ r : Nat, o = .returned (some (.ref r)) ∧ post r ∧ t.heap = st.heap
theorem rd_r {post : Nat → Prop} (hr : va_Run p l e R s m args below meth c H locs cells slots 0 0 (F0 m pc ls st0) rest (Sr0 post a) (fun _ => False))
    (kk : ∀ r : Nat, post r → W p l e R s m args below meth c H locs cells slots Q (F0 m (pc + 3) ls (.ref r :: rest))) : W p l e R s m args below meth c H locs cells slots Q (F0 m pc ls st0) := by
  intro T hT X
  obtain ⟨v, st₀, t, T', L, h0, X', hL, e1, -, ⟨r, hv, hp, hh⟩, st⟩ := hr T hT X
  cases hv
  obtain ⟨t2, a1, b1⟩ := kk r hp T' (by rw [e1, hh, h0]) (Stand.forget X' (fun q h => (hL q h).elim))
  exact ⟨t2, st t2 a1, b1⟩
/-- the call of an instance method that reads only -/
theorem runV0 {Qc : Array Value → State → Outcome → State → Prop} (S : CallFix p m c cc nL s args Ts own) (hM : Met l y ws rm (Pre0 dC dI cI cW (.ref b :: As) wc) Qc 0 0 (fun _ => False)) (cw : CallW R s args own C index y bytes maxL ret ws rm 0 0 n)
    (hKK : KK dC dI cI cW s) (hP : va_P (dC, dI) vwCl wc H) (ci q0 : Nat) {fs : List Value} {T : u_T} {N : Nat} (hc : vwCl[ci]? = some (C, T, N)) (he : wc[q0]? = some (b, .inr (ci, fs)))
    (hn : As.length = n) (hsize : ls.size = nL) (hcat : (rest.map fun v => v.category).sum ≤ 8) (hstack : st0 = As.reverse ++ .ref b :: rest) (hdg : decode cc pc = .ok (.invokevirtual index, 3)) (hrm : cells ≤ R.cells ∧ slots ≤ R.slots) :
    va_Run p l e R s m args below meth c H locs cells slots 0 0 (F0 m pc ls st0) rest (Qc (Value.ref b :: As).toArray) (fun _ => False) :=
  va_runV S hM cw ⟨Pre0_blind, va_recv hKK.1 hP hc he, fun U hU hW => ⟨rfl, by rw [hU]; exact hP, hKK.warm hW⟩⟩ rfl hn hsize hstack (lv_room hcat) hdg hrm
theorem runS0 {Qc : Array Value → State → Outcome → State → Prop} (S : CallFix p m c cc nL s args Ts own) (hM : Met l y ws rm (Pre0 dC dI cI cW As wc) Qc 0 0 (fun _ => False)) (cw : CallB R s args own index y bytes maxL ret ws rm 0 0 n ∧ (Cond.static y).before args s = true)
    (hKK : KK dC dI cI cW s) (hP : va_P (dC, dI) vwCl wc H)
    (hn : As.length = n) (hsize : ls.size = nL) (hcat : (rest.map fun v => v.category).sum ≤ 8) (hstack : st0 = As.reverse ++ rest) (hdg : decode cc pc = .ok (.invokestatic index, 3)) (hrm : cells ≤ R.cells ∧ slots ≤ R.slots) :
    va_Run p l e R s m args below meth c H locs cells slots 0 0 (F0 m pc ls st0) rest (Qc As.toArray) (fun _ => False) :=
  va_runS S hM cw ⟨Pre0_blind, fun U hU hW => ⟨rfl, by rw [hU]; exact hP, hKK.warm hW⟩⟩ rfl hn hsize hstack (lv_room hcat) hdg hrm
theorem runSN0 {Qc : Array Value → State → Outcome → State → Prop} (S : CallFix p m c cc nL s args Ts own) (hM : Met l y ws rm (Pre0 dC dI cI cW As wc) Qc 0 0 (fun _ => False)) (cw : va_CN R s args own index y host bytes maxL ret ws rm 0 0 n ∧ (Cond.static y).before args s = true ∧ True)
    (hKK : KK dC dI cI cW s) (hP : va_P (dC, dI) vwCl wc H)
    (hn : As.length = n) (hsize : ls.size = nL) (hcat : (rest.map fun v => v.category).sum ≤ 8) (hstack : st0 = As.reverse ++ rest) (hdg : decode cc pc = .ok (.invokestatic index, 3)) (hrm : cells ≤ R.cells ∧ slots ≤ R.slots) :
    va_Run p l e R s m args below meth c H locs cells slots 0 0 (F0 m pc ls st0) rest (Qc As.toArray) (fun _ => False) :=
  va_runSN S hM cw ⟨Pre0_blind, fun U hU hW => ⟨rfl, by rw [hU]; exact hP, hKK.warm hW⟩⟩ rfl hn hsize hstack (lv_room hcat) hdg hrm
/-- the call of an instance method that writes its own world -/
theorem runV1 {Qc : Array Value → State → Outcome → State → Prop} {mc ms : Nat} {free : Addr → Prop} (S : CallFix p m c cc nL s args Ts own) (hM : Met l y ws rm (Pre1 dC dI cI cW (.ref b :: As) wc H.size) Qc mc ms free) (cw : CallW R s args own C index y bytes maxL ret ws rm mc ms n)
    (hKK : KK dC dI cI cW s) (hP : va_P (dC, dI) vwCl wc H) {A : Nat → Prop} (hD : va_D A wc) (ci q0 : Nat) {fs : List Value} {T : u_T} {N : Nat} (hc : vwCl[ci]? = some (C, T, N)) (he : wc[q0]? = some (b, .inr (ci, fs)))
    (hn : As.length = n) (hsize : ls.size = nL) (hcat : (rest.map fun v => v.category).sum ≤ 8) (hstack : st0 = As.reverse ++ .ref b :: rest) (hdg : decode cc pc = .ok (.invokevirtual index, 3)) (hrm : cells + mc ≤ R.cells ∧ slots + ms ≤ R.slots) :
    va_Run p l e R s m args below meth c H locs cells slots mc ms (F0 m pc ls st0) rest (Qc (Value.ref b :: As).toArray) free :=
  va_runV S hM cw ⟨Pre1_blind, va_recv hKK.1 hP hc he, fun U hU hW => ⟨rfl, by rw [hU], by rw [hU]; exact hP, hD.weaken (fun _ _ _ _ => trivial), hKK.warm hW⟩⟩ rfl hn hsize hstack (lv_room hcat) hdg hrm
theorem wr_v {A : Nat → Prop} {H0 : Heap} {mc ms : Nat} {wc' : va_W} (hr : va_Run p l e R s m args below meth c H locs cells slots mc ms (F0 m pc ls st0) rest (Qv1 dC dI wc wc' H.size a) (va_A wc H.size)) (hD : va_D A wc) (hS : va_S A H0 H locs) (hA : ∀ q, H0.size ≤ q → A q)
    (kk : ∀ (H1 : Heap) (locs1 : List Loc), va_P (dC, dI) vwCl wc' H1 → va_D A wc' → va_S A H0 H1 locs1 → W p l e R s m args below meth c H1 locs1 (cells + mc) (slots + ms) Q (F0 m (pc + 3) ls rest)) : W p l e R s m args below meth c H locs cells slots Q (F0 m pc ls st0) :=
  va_callv hr hS (fun q _ h => free_all hD hS hA q h) (free_all hD hS hA) (fun u t H1 locs1 ht hvm hw hB hz hk hS1 => kk H1 locs1 (by rw [← ht]; exact hB.1) (hB.2.weaken (fun _ q _ h => free_all hD hS hA q.1 h)) hS1)
theorem wr_i {A : Nat → Prop} {H0 : Heap} {mc ms : Nat} {wc' : va_W} {post : Int32 → Prop} (hr : va_Run p l e R s m args below meth c H locs cells slots mc ms (F0 m pc ls st0) rest (Qi1 dC dI post wc wc' H.size a) (va_A wc H.size)) (hD : va_D A wc) (hS : va_S A H0 H locs) (hA : ∀ q, H0.size ≤ q → A q)
    (kk : ∀ (r : Int32) (H1 : Heap) (locs1 : List Loc), post r → va_P (dC, dI) vwCl wc' H1 → va_D A wc' → va_S A H0 H1 locs1 → W p l e R s m args below meth c H1 locs1 (cells + mc) (slots + ms) Q (F0 m (pc + 3) ls (.int r :: rest))) : W p l e R s m args below meth c H locs cells slots Q (F0 m pc ls st0) :=
  va_calli hr hS (fun q _ h => free_all hD hS hA q h) (free_all hD hS hA) (fun r u t H1 locs1 ht hvm hw hB hz hk hS1 => kk r H1 locs1 hw (by rw [← ht]; exact hB.1) (hB.2.weaken (fun _ q _ h => free_all hD hS hA q.1 h)) hS1)
end RD
end
section
/-! the mathematical value: tables, worths, a widow's row, a book -/
/-- the worth in thousandths, n years below 100, put off by late years -/
def wN (d : Nat → Int32) (i : Int32) : Nat → Nat → Int32
  | 0, _ => 0
  | n + 1, 0 => (1000 - d (49 - n)) * (1000 + wN d i n 0) / (1000 + i)
  | n + 1, late + 1 => (1000 - d (49 - n)) * wN d i n late / (1000 + i)
def dAt (d : Nat → Int32) (a : Int32) : Int32 := if 50 ≤ a ∧ a ≤ 99 then d (a - 50).toNatClampNeg else 1000
def inB (a lo hi : Int32) : Int32 := if lo ≤ a ∧ a ≤ hi then 1 else 0
abbrev row (f : Nat → Int32) : List Value := [.int (f 0), .int (f 1), .int (f 2), .int (f 3), .int (f 4), .int (f 5), .int (f 6)]
def keptS (d : Nat → Int32) (i : Int32) (f : Nat → Int32) : Int32 := if f 4 = 0 then f 1 * wN d i (100 - (f 0).toNatClampNeg) (f 2).toNatClampNeg / 1000 else 0
def priceS (r1 sum w : Int32) : Int32 := if w = 0 then 0 else if sum * w / 1000 + sum * w / 1000 * r1 / 100 < 1 then 1 else sum * w / 1000 + sum * w / 1000 * r1 / 100
def backS (d : Nat → Int32) (r : Nat → Int32) (f : Nat → Int32) : Int32 := if f 4 = 0 ∧ 2 ≤ f 3 then keptS d (r 0) f - keptS d (r 0) f * r 2 / 100 else 0
def tellS (d : Nat → Int32) (r : Nat → Int32) (f : Nat → Int32) (what : Nat) : Int32 := if what = 5 then keptS d (r 0) f else if what = 6 then f 5 else if what = 7 then f 6 else if what = 8 then backS d r f else f what
/-- a widow who is alive has an age, a sum and years to wait that the reckoning bears -/
def okW (f : Nat → Int32) : Prop := f 4 = 0 → (∃ a : Nat, f 0 = nI a ∧ 50 ≤ a ∧ a ≤ 99) ∧ (∃ b : Nat, f 2 = nI b ∧ b ≤ 30) ∧ ∃ c : Nat, f 1 = nI c ∧ 1 ≤ c ∧ c ≤ 999
def aliveS (d : Nat → Int32) (k : Nat) : Nat → Int32
  | 0 => 1000
  | n + 1 => aliveS d k n * (1000 - d (k + n)) / 1000
/-- comparisons in whole numbers -/
theorem i_le (a b : Int32) : a ≤ b ↔ a.toInt ≤ b.toInt := Int32.le_iff_toInt_le
theorem i_lt (a b : Int32) : a < b ↔ a.toInt < b.toInt := Int32.lt_iff_toInt_lt
theorem i_eq (a b : Int32) : a = b ↔ a.toInt = b.toInt := Int32.toInt_inj.symm
theorem i_rng (x : Int32) : -2147483648 ≤ x.toInt ∧ x.toInt < 2147483648 := by
  have h1 := x.le_toInt
  have h2 := x.toInt_lt
  omega
theorem i_bmod {z : Int} (h1 : -2147483648 ≤ z) (h2 : z < 2147483648) : z.bmod (2 ^ 32) = z := by
  rw [Int.bmod_def]
  omega
theorem i_add {x y : Int32} (h1 : -2147483648 ≤ x.toInt + y.toInt) (h2 : x.toInt + y.toInt < 2147483648) : (x + y).toInt = x.toInt + y.toInt := by
  rw [Int32.toInt_add]; exact i_bmod h1 h2
theorem i_sub {x y : Int32} (h1 : -2147483648 ≤ x.toInt - y.toInt) (h2 : x.toInt - y.toInt < 2147483648) : (x - y).toInt = x.toInt - y.toInt := by
  rw [Int32.toInt_sub]; exact i_bmod h1 h2
theorem i_mul {x y : Int32} (h1 : -2147483648 ≤ x.toInt * y.toInt) (h2 : x.toInt * y.toInt < 2147483648) : (x * y).toInt = x.toInt * y.toInt := by
  rw [Int32.toInt_mul]; exact i_bmod h1 h2
theorem n_sub {a b : Nat} (h : b ≤ a) : nI a - nI b = nI (a - b) := pk_sub h
theorem clamp_nI {a : Nat} (h : a < 2147483648) : (nI a).toNatClampNeg = a := nI_clamp (by omega)
/-- a number of 0 to n is one of nI -/
theorem of_rng {x : Int32} (lo hi : Nat) (h1 : nI lo ≤ x) (h2 : x ≤ nI hi) (hh : hi < 2147483648) (hl : lo ≤ hi) : ∃ k : Nat, x = nI k ∧ lo ≤ k ∧ k ≤ hi := by
  have e1 := nI_toInt (n := lo) (by omega)
  have e2 := nI_toInt (n := hi) (by omega)
  rw [i_le] at h1 h2
  rw [e1] at h1
  rw [e2] at h2
  refine ⟨x.toInt.toNat, ?_, by omega, by omega⟩
  rw [i_eq, nI_toInt (by omega)]
  omega
theorem wN_late (d : Nat → Int32) (i : Int32) : ∀ n late, n ≤ late → wN d i n late = 0
  | 0, _, _ => by simp [wN]
  | n + 1, 0, h => absurd h (by omega)
  | n + 1, late + 1, h => by
    rw [wN, wN_late d i n late (by omega)]
    simp
theorem b0 {P : Prop} [Decidable P] : ((if P then (1 : Int32) else 0) = 0) ↔ ¬ P := by
  by_cases h : P <;> simp [h]
theorem b1 {P : Prop} [Decidable P] : ¬ ((if P then (1 : Int32) else 0) = 0) ↔ P := by
  by_cases h : P <;> simp [h]
theorem nilP {D : va_G} {cl : List vw_C} {H : Heap} : va_P D cl [] H := fun k q h => by simp at h
theorem in_age {a : Int32} (h : 50 ≤ a ∧ a ≤ 99) : vp_in (a - 50) 50 := by
  obtain ⟨k, rfl, h1, h2⟩ := of_rng (x := a) 50 99 h.1 h.2 (by omega) (by omega)
  rw [show (50 : Int32) = nI 50 from rfl, n_sub h1]
  exact vp_in_nI (by omega) (by omega)
theorem lt_nI {a b : Nat} (h : a < 2147483648 ∧ b < 2147483648) : nI a < nI b ↔ a < b := nI_ltI (by omega) (by omega)
theorem le_nI {a b : Nat} (h : a < 2147483648 ∧ b < 2147483648) : nI a ≤ nI b ↔ a ≤ b := nI_leI (by omega) (by omega)
theorem dec_nI {a b : Nat} (h : a = b + 1) : nI a + Int32.ofInt (-1) = nI b := by subst h; exact pk_m1 b
theorem hl_to {ls : Array Slot} {n : Nat} {a b : List (Nat × Value)} (h : a = b) (hl : lv_has ls n a) : lv_has ls n b := h ▸ hl
theorem dAt_nI (d : Nat → Int32) {a : Nat} (h1 : 50 ≤ a) (h2 : a ≤ 99) : dAt d (nI a) = d (a - 50) := by
  unfold dAt
  rw [if_pos ⟨(le_nI (a := 50) (by omega)).mpr h1, (le_nI (b := 99) (by omega)).mpr h2⟩, show (50 : Int32) = nI 50 from rfl, n_sub h1, clamp_nI (by omega)]
theorem wN_paid (d : Nat → Int32) (i : Int32) {ka kb j : Nat} (h1 : 50 ≤ ka) (h : j < 100 - ka) (hp : ka + kb ≤ 99 - j) : (1000 - dAt d (nI (99 - j))) * (1000 + wN d i j (kb - (100 - ka - j))) / (1000 + i) = wN d i (j + 1) (kb - (100 - ka - (j + 1))) := by
  rw [show kb - (100 - ka - (j + 1)) = 0 by omega, show kb - (100 - ka - j) = 0 by omega, dAt_nI d (by omega) (by omega), show 99 - j - 50 = 49 - j by omega, wN]
theorem wN_free (d : Nat → Int32) (i : Int32) {ka kb j : Nat} (h1 : 50 ≤ ka) (h : j < 100 - ka) (hp : 99 - j < ka + kb) : (1000 - dAt d (nI (99 - j))) * (0 + wN d i j (kb - (100 - ka - j))) / (1000 + i) = wN d i (j + 1) (kb - (100 - ka - (j + 1))) := by
  rw [show kb - (100 - ka - (j + 1)) = (kb - (100 - ka - j)) + 1 by omega, dAt_nI d (by omega) (by omega), show 99 - j - 50 = 49 - j by omega, wN]
  simp
/-- the greatest k up to n of which P says yes; 0 without one -/
def dnS (P : Nat → Bool) : Nat → Nat
  | 0 => 0
  | n + 1 => if P (n + 1) then n + 1 else dnS P n
theorem dnS_le (P : Nat → Bool) : ∀ n, dnS P n ≤ n
  | 0 => Nat.le_refl 0
  | n + 1 => by
    rw [dnS]
    have ih := dnS_le P n
    split <;> omega
theorem dnS_ge {P : Nat → Bool} : ∀ {n k : Nat}, k ≤ n → P k = true → k ≤ dnS P n
  | 0, k, h, _ => h
  | n + 1, k, h, hp => by
    rw [dnS]
    by_cases hq : P (n + 1) = true
    · rw [if_pos hq]; exact h
    · rw [if_neg hq]
      rcases Nat.lt_or_ge n k with g | g
      · rw [show k = n + 1 by omega] at hp
        exact absurd hp hq
      · exact dnS_ge g hp
theorem dnS_yes {P : Nat → Bool} : ∀ {n : Nat}, 0 < dnS P n → P (dnS P n) = true
  | 0, h => absurd h (Nat.lt_irrefl 0)
  | n + 1, h => by
    by_cases hq : P (n + 1) = true
    · rw [dnS, if_pos hq]; exact hq
    · rw [dnS, if_neg hq] at h ⊢
      exact dnS_yes h
def gS (r1 x money : Int32) : Nat := dnS (fun k => decide (priceS r1 (nI k) x ≤ money)) 999
theorem gS_ge {r1 x money : Int32} {k : Nat} (hk : k ≤ 999) (h : priceS r1 (nI k) x ≤ money) : k ≤ gS r1 x money := dnS_ge hk (decide_eq_true h)
theorem gS_lt {r1 x money : Int32} (hm : ∀ k : Nat, k < 999 → priceS r1 (nI (k + 1)) x ≤ money → priceS r1 (nI k) x ≤ money) {k : Nat} (h0 : 0 < k) (hk : k ≤ 999) (h : ¬ priceS r1 (nI k) x ≤ money) : gS r1 x money < k := by
  have down : ∀ n j : Nat, j + n ≤ 999 → priceS r1 (nI (j + n)) x ≤ money → priceS r1 (nI j) x ≤ money := by
    intro n
    induction n with
    | zero => intro j _ hj; exact hj
    | succ n ih => intro j hj hp; exact ih j (by omega) (hm (j + n) (by omega) hp)
  rcases Nat.lt_or_ge (gS r1 x money) k with g | g
  · exact g
  · exfalso
    have hy : priceS r1 (nI (gS r1 x money)) x ≤ money := of_decide_eq_true (dnS_yes (P := fun k => decide (priceS r1 (nI k) x ≤ money)) (n := 999) (show 0 < gS r1 x money by omega))
    have hle : gS r1 x money ≤ 999 := dnS_le _ _
    have e : gS r1 x money = k + (gS r1 x money - k) := by omega
    rw [e] at hy
    exact h (down _ _ (by omega) hy)
end
section
/-! the worlds: the tables; a book -/
abbrev tab (cI : ClassId) (X : Nat → Nat) (d r : Nat → Int32) : va_W := [(X 1, .inr (1, [.ref (X 2), .ref (X 3)])), (X 2, .inl (cI, 50, .inl d)), (X 3, .inl (cI, 3, .inl r))]
def wl (B : Nat → Nat) (W : Nat → Nat → Int32) : va_W := (List.range 10).map (fun k => (B (k + 2), .inr (2, row (W k))))
abbrev bk (cW : ClassId) (X B : Nat → Nat) (n : Nat) (ch pd pr yr : Int32) (W : Nat → Nat → Int32) : va_W :=
  (B 0, .inr (0, [.ref (X 1), .ref (B 1), .int (nI n), .int ch, .int pd, .int pr, .int yr])) :: (B 1, .inl (cW, 10, .inr (.inr (.inr (.inr (fun k => some (B (k + 2)))))))) :: wl B W
def upW (W : Nat → Nat → Int32) (k : Nat) (g : Nat → Int32) : Nat → Nat → Int32 := fun j => if j = k then g else W j
theorem wl_len (B : Nat → Nat) (W : Nat → Nat → Int32) : (wl B W).length = 10 := by simp [wl]
theorem wl_at {B : Nat → Nat} {W : Nat → Nat → Int32} {k : Nat} (h : k < 10) : (wl B W)[k]? = some (B (k + 2), .inr (2, row (W k))) := by
  simp [wl, List.getElem?_map, List.getElem?_range h]
theorem wl_set {B : Nat → Nat} {W : Nat → Nat → Int32} {k : Nat} {g : Nat → Int32} : (wl B W).set k (B (k + 2), .inr (2, row g)) = wl B (upW W k g) := by
  apply List.ext_getElem?
  intro j
  by_cases hj : j < 10
  · rw [wl_at hj, List.getElem?_set]
    by_cases e : k = j
    · subst e
      simp [wl_len, hj, upW]
    · rw [if_neg e, wl_at hj]
      simp [upW, show ¬ j = k from fun q => e q.symm]
  · have h1 : ((wl B W).set k (B (k + 2), .inr (2, row g)))[j]? = none := List.getElem?_eq_none (by rw [List.length_set, wl_len]; omega)
    have h2 : (wl B (upW W k g))[j]? = none := List.getElem?_eq_none (by rw [wl_len]; omega)
    rw [h1, h2]
theorem wl_congr {B : Nat → Nat} {W W' : Nat → Nat → Int32} (h : ∀ k, k < 10 → row (W k) = row (W' k)) : wl B W = wl B W' := by
  unfold wl
  apply List.map_congr_left
  intro k hk
  rw [h k (List.mem_range.mp hk)]
theorem bk_at {cW : ClassId} {X B : Nat → Nat} {n : Nat} {ch pd pr yr : Int32} {W : Nat → Nat → Int32} {k : Nat} (h : k < 10) : (bk cW X B n ch pd pr yr W)[k + 2]? = some (B (k + 2), .inr (2, row (W k))) := by
  show (wl B W)[k]? = _
  exact wl_at h
theorem bw_at {cI cW : ClassId} {X B : Nat → Nat} {d r : Nat → Int32} {n : Nat} {ch pd pr yr : Int32} {W : Nat → Nat → Int32} {R : va_W} {k : Nat} (h : k < 10) : (tab cI X d r ++ (bk cW X B n ch pd pr yr W ++ R))[k + 5]? = some (B (k + 2), .inr (2, row (W k))) := by
  show (wl B W ++ R)[k]? = _
  rw [List.getElem?_append_left (by rw [wl_len]; exact h)]
  exact wl_at h
theorem bw_set {cI cW : ClassId} {X B : Nat → Nat} {d r : Nat → Int32} {n : Nat} {ch pd pr yr : Int32} {W : Nat → Nat → Int32} {R : va_W} {k : Nat} {g : Nat → Int32} (h : k < 10) : (tab cI X d r ++ (bk cW X B n ch pd pr yr W ++ R)).set (k + 5) (B (k + 2), .inr (2, row g)) = tab cI X d r ++ (bk cW X B n ch pd pr yr (upW W k g) ++ R) := by
  have e : (wl B W ++ R).set k (B (k + 2), .inr (2, row g)) = wl B (upW W k g) ++ R := by
    rw [List.set_append_left _ _ (by rw [wl_len]; exact h), wl_set]
  show tab cI X d r ++ (_ :: _ :: (wl B W ++ R).set k (B (k + 2), .inr (2, row g))) = _
  rw [e]
  rfl
/-! sums over the widows; a year -/
def sm (g : Nat → Int32) : Nat → Int32
  | 0 => 0
  | n + 1 => sm g n + g n
theorem sm_congr {g h : Nat → Int32} : ∀ {n : Nat}, (∀ k, k < n → g k = h k) → sm g n = sm h n
  | 0, _ => rfl
  | n + 1, e => by rw [sm, sm, sm_congr (fun k hk => e k (by omega)), e n (by omega)]
abbrev alvF (W : Nat → Nat → Int32) : Nat → Int32 := fun k => if W k 4 = 0 then 1 else 0
abbrev ageF (W : Nat → Nat → Int32) : Nat → Int32 := fun k => if W k 4 = 0 then W k 0 else 0
abbrev dueF (W : Nat → Nat → Int32) : Nat → Int32 := fun k => if W k 4 = 0 ∧ W k 2 = 0 then W k 1 else 0
abbrev kptF (d : Nat → Int32) (i : Int32) (W : Nat → Nat → Int32) : Nat → Int32 := fun k => keptS d i (W k)
def countS (d r : Nat → Int32) (n : Nat) (ch pd pr yr : Int32) (W : Nat → Nat → Int32) (what : Nat) : Int32 :=
  if what = 0 then yr else if what = 1 then nI n else if what = 2 then sm (alvF W) n else if what = 3 then ch else if what = 4 then sm (kptF d (r 0) W) n
  else if what = 5 then ch - sm (kptF d (r 0) W) n else if what = 6 then sm (dueF W) n else if what = 7 then pd else pr
def mkW (a s p c : Int32) : Nat → Int32 := fun k => if k = 0 then a else if k = 1 then s else if k = 2 then p else if k = 6 then c else 0
def yearW (f : Nat → Int32) : Nat → Int32 := fun k => if k = 0 then f 0 + 1 else if k = 2 then (if f 2 = 0 then f 2 else f 2 - 1) else if k = 3 then f 3 + 1 else if k = 4 then (if f 0 = 99 then 1 else f 4) else if k = 5 then (if f 2 = 0 then f 5 + f 1 else f 5) else f k
def takeS (ch x : Int32) : Int32 := if 99999999 < ch + x then 99999999 else ch + x
def intS (r0 ch : Int32) : Int32 := if 0 < ch then takeS ch (ch.toInt64 * r0.toInt64 / 1000).toInt32 else ch
def yW (n : Nat) (W : Nat → Nat → Int32) : Nat → Nat → Int32 := fun k => if k < n ∧ W k 4 = 0 then yearW (W k) else W k
abbrev YS : Type := Int32 × Int32 × Int32 × (Nat → Nat → Int32)
def yStep (r0 : Int32) (n : Nat) (S : YS) : YS := (intS r0 S.1 - sm (dueF S.2.2.2) n, S.2.1 + sm (dueF S.2.2.2) n, S.2.2.1 + 1, yW n S.2.2.2)
def yIter (r0 : Int32) (n : Nat) : Nat → YS → YS
  | 0, S => S
  | k + 1, S => yStep r0 n (yIter r0 n k S)
theorem i_assoc_sub (a b c : Int32) : a - b - c = a - (b + c) := by
  apply Int32.toBitVec_inj.mp
  simp only [Int32.toBitVec_sub, Int32.toBitVec_add]
  rw [BitVec.sub_sub]
theorem i_assoc_add (a b c : Int32) : a + b + c = a + (b + c) := Int32.add_assoc a b c
/-- a year leaves what the reckoning bears -/
theorem okW_year {f : Nat → Int32} (h : okW f) (h4 : f 4 = 0) : okW (yearW f) := by
  intro h9
  obtain ⟨⟨a, ha, ha1, ha2⟩, ⟨b, hb, hb1⟩, c, hc, hc1, hc2⟩ := h h4
  have e99 : ¬ f 0 = 99 := by
    intro q
    simp [yearW, q] at h9
  have hne : a ≠ 99 := by
    intro q
    rw [ha, q] at e99
    exact e99 rfl
  refine ⟨⟨a + 1, ?_, by omega, by omega⟩, ?_, c, ?_, hc1, hc2⟩
  · simp [yearW, ha, nI_1]
  · by_cases h2 : f 2 = 0
    · exact ⟨b, by simp [yearW, h2]; rw [← hb, h2], hb1⟩
    · have hb0 : b ≠ 0 := by
        intro q
        rw [q] at hb
        exact h2 hb
      refine ⟨b - 1, ?_, by omega⟩
      simp [yearW, h2]
      rw [hb, show (1 : Int32) = nI 1 from rfl, n_sub (by omega)]
  · simp [yearW, hc]
theorem okW_yW {n : Nat} {W : Nat → Nat → Int32} (h : ∀ k, k < n → okW (W k)) : ∀ k, k < n → okW (yW n W k) := by
  intro k hk
  by_cases h4 : W k 4 = 0
  · simp only [yW, hk, h4, and_self, if_true]
    exact okW_year (h k hk) h4
  · simp only [yW, h4, and_false, if_false]
    exact h k hk
theorem okW_iter {r0 : Int32} {n : Nat} {S : YS} (h : ∀ k, k < n → okW (S.2.2.2 k)) : ∀ y k, k < n → okW ((yIter r0 n y S).2.2.2 k)
  | 0 => h
  | y + 1 => okW_yW (okW_iter h y)
theorem yW_0 (W : Nat → Nat → Int32) : yW 0 W = W := by
  funext k
  simp [yW]
theorem yW_no {W : Nat → Nat → Int32} {j : Nat} (h : ¬ W j 4 = 0) : yW (j + 1) W = yW j W := by
  funext k
  by_cases e : k = j
  · subst e
    simp [yW, h]
  · simp [yW, show (k < j + 1 ↔ k < j) by omega]
theorem yW_yes {W : Nat → Nat → Int32} {j : Nat} (h : W j 4 = 0) : yW (j + 1) W = upW (yW j W) j (yearW (W j)) := by
  funext k
  by_cases e : k = j
  · subst e
    simp [yW, upW, h]
  · simp [yW, upW, e, show (k < j + 1 ↔ k < j) by omega]
theorem due_no {W : Nat → Nat → Int32} {j : Nat} (h : ¬ W j 4 = 0) : sm (dueF W) (j + 1) = sm (dueF W) j := by simp [sm, dueF, h]
theorem due_yes {W : Nat → Nat → Int32} {j : Nat} (h : W j 4 = 0) : sm (dueF W) (j + 1) = sm (dueF W) j + (if W j 2 = 0 then W j 1 else 0) := by simp [sm, dueF, h]
theorem ne_99 {x : Int32} (h : x + 1 ≤ 99) : ¬ x = 99 := by
  intro q
  subst q
  exact absurd h (by decide)
theorem is_99 {x : Int32} {a : Nat} (ha : x = nI a) (h2 : a ≤ 99) (h : ¬ x + 1 ≤ 99) : x = 99 := by
  subst ha
  rw [nI_1] at h
  have h1 : ¬ a + 1 ≤ 99 := fun q => h ((le_nI (a := a + 1) (b := 99) (by omega)).mpr q)
  rw [show a = 99 by omega]
  rfl
theorem zero_le {x : Int32} {b : Nat} (hb : x = nI b) (h : b ≤ 30) (h2 : x ≤ 0) : x = 0 := by
  subst hb
  have h1 : b ≤ 0 := (le_nI (a := b) (b := 0) (by omega)).mp h2
  rw [show b = 0 by omega]
  rfl
end
section
set_option maxHeartbeats 4000000 in
set_option maxRecDepth 100000 in
/-- isAge -/
theorem met_X3_isAge (l : Launch) (dC : Nat → ClassId) (dI : Nat → Nat → Nat) (cI cW : ClassId) (a : Int32) : Met l yX3_isAge wsX3_isAge ({ frames := 0, cells := 0, slots := 0, locals := 0 }) (Pre0 dC dI cI cW [.int a] ([])) (vp_Si (fun z => z = (if 50 ≤ a ∧ a ≤ 99 then (1 : Int32) else 0))) 0 0 (fun _ => False) := by
  refine Met.ofW (cc := cX3_isAge) (maxL := 1) (ret := (some .boolean)) (by decide) rfl ?_
  intro p e s m args below meth c s₁ B hml hv
  obtain ⟨rfl, hP, hKK⟩ := hv
  have hx := B.exec
  have hb := B.bytes
  have hr := B.returns
  have hts := atoms_spec (ws := wsX3_isAge) B.pre
  have hown : s.vm.findClass RX3 = some m.cls := findClass_of_methodNamed B.named
  have hlocks := B.notSynchronized
  have hl := lv_entry ([.int a]) (n := 1) (Nat.le_of_ble_eq_true rfl)
  rw [lg_entry_eq]
  generalize (lg_sl ([.int a]) ++ List.replicate (1 - (lg_sl ([.int a])).length) Slot.unset).toArray = ls at hl ⊢
  have hl : lv_has ls 1 [(0, .int a)] := hl
  refine lv_iload_n hx hb dX3_isAge_0 rfl (lv_at hl 0 rfl) ?_
  refine lv_bipush (v := 50) hx hb dX3_isAge_1 (by decide) ?_
  refine lv_icmp_lt (tgt := 16) hx hb dX3_isAge_3 (by decide) (fun c_1 => ?_) (fun c_1 => ?_)
  · refine lv_iconst (v := 0) hx hb dX3_isAge_16 (by decide) ?_
    have hz : 0 = (if 50 ≤ a ∧ a ≤ 99 then (1 : Int32) else 0) := by simp_all [i_le, i_lt] <;> omega
    exact W.zret (v := 0) hx hb hr (by first | rfl | (split <;> rfl)) (fun t ht hW => ⟨_, rfl, hz, ht⟩) (fun q hq => absurd hq List.not_mem_nil) dX3_isAge_17
  · refine lv_iload_n hx hb dX3_isAge_6 rfl (lv_at hl 0 rfl) ?_
    refine lv_bipush (v := 99) hx hb dX3_isAge_7 (by decide) ?_
    refine lv_icmp_gt (tgt := 16) hx hb dX3_isAge_9 (by decide) (fun c_2 => ?_) (fun c_2 => ?_)
    · refine lv_iconst (v := 0) hx hb dX3_isAge_16 (by decide) ?_
      have hz : 0 = (if 50 ≤ a ∧ a ≤ 99 then (1 : Int32) else 0) := by simp_all [i_le, i_lt] <;> omega
      exact W.zret (v := 0) hx hb hr (by first | rfl | (split <;> rfl)) (fun t ht hW => ⟨_, rfl, hz, ht⟩) (fun q hq => absurd hq List.not_mem_nil) dX3_isAge_17
    · refine lv_iconst (v := 1) hx hb dX3_isAge_12 (by decide) ?_
      refine lv_goto (tgt := 17) hx hb dX3_isAge_13 (by decide) ?_
      have hz : 1 = (if 50 ≤ a ∧ a ≤ 99 then (1 : Int32) else 0) := by simp_all [i_le, i_lt] <;> omega
      exact W.zret (v := 1) hx hb hr (by first | rfl | (split <;> rfl)) (fun t ht hW => ⟨_, rfl, hz, ht⟩) (fun q hq => absurd hq List.not_mem_nil) dX3_isAge_17
set_option maxHeartbeats 4000000 in
set_option maxRecDepth 100000 in
theorem met_X1_deathsAt (l : Launch) (dC : Nat → ClassId) (dI : Nat → Nat → Nat) (cI cW : ClassId) (X : Nat → Nat) (d r : Nat → Int32) (a : Int32) : Met l yX1_deathsAt wsX1_deathsAt ({ frames := 1, cells := 0, slots := 0, locals := 20 }) (Pre0 dC dI cI cW [.ref (X 1), .int a] (tab cI X d r)) (vp_Si (fun z => z = dAt d a)) 0 0 (fun _ => False) := by
  refine Met.ofW (cc := cX1_deathsAt) (maxL := 2) (ret := (some .int)) (by decide) rfl ?_
  intro p e s m args below meth c s₁ B hml hv
  obtain ⟨rfl, hP, hKK⟩ := hv
  have hx := B.exec
  have hb := B.bytes
  have hr := B.returns
  have hts := atoms_spec (ws := wsX1_deathsAt) B.pre
  have hown : s.vm.findClass RX1 = some m.cls := findClass_of_methodNamed B.named
  have hlocks := B.notSynchronized
  have hl := lv_entry ([.ref (X 1), .int a]) (n := 2) (Nat.le_of_ble_eq_true rfl)
  rw [lg_entry_eq]
  generalize (lg_sl ([.ref (X 1), .int a]) ++ List.replicate (2 - (lg_sl ([.ref (X 1), .int a])).length) Slot.unset).toArray = ls at hl ⊢
  have hl : lv_has ls 2 [(0, .ref (X 1)), (1, .int a)] := hl
  refine lv_iload_n hx hb dX1_deathsAt_0 rfl (lv_at hl 1 rfl) ?_
  refine rd_i (runSN0 (As := [.int a]) (rest := []) (host := RX3) ⟨hx, hb, hml, hown, hts⟩ (met_X3_isAge l dC dI cI cW a) ⟨va_cnB 1 hts gX1_deathsAt_X3_isAge_n18 rfl rfl rfl hKK.2.1 (hts (.initialized RX3) (by decide +kernel)) (by decide +kernel) ⟨Nat.le_of_ble_eq_true rfl, Nat.le_of_ble_eq_true rfl⟩, hts (.static yX3_isAge) (by decide +kernel), trivial⟩ hKK nilP rfl hl.1 (Nat.le_of_ble_eq_true rfl) rfl dX1_deathsAt_1 ⟨Nat.zero_le _, Nat.zero_le _⟩) (fun r_1 hr_1 => ?_)
  subst hr_1
  refine lv_if_eq (tgt := 19) hx hb dX1_deathsAt_4 (by decide) (fun c_2 => ?_) (fun c_2 => ?_)
  · have bc_2 : ¬ (50 ≤ a ∧ a ≤ 99) := b0.mp c_2
    refine lv_sipush (v := 1000) hx hb dX1_deathsAt_19 (by decide) ?_
    have hz : 1000 = dAt d a := by unfold dAt; simp [bc_2]
    exact W.iret (v := 1000) hx hb hr (fun t ht hW => ⟨_, rfl, hz, ht⟩) (fun q hq => absurd hq List.not_mem_nil) dX1_deathsAt_22
  · have bc_2 : 50 ≤ a ∧ a ≤ 99 := b1.mp c_2
    have hin : vp_in (a - 50) 50 := in_age bc_2
    refine lv_aload_n hx hb dX1_deathsAt_7 rfl (lv_at hl 0 rfl) ?_
    refine va_get (D := (dC, dI)) (ci := 1) (v := .ref (X 2)) (C := RX1) (T := TX1) (N := 2) hx hb hts (by decide +kernel) hown hKK.1 hP 0 rfl rfl 0 (by decide) (hts (.fieldLink RX1 9 "WidowPennies$Tables" "deaths" "[I") (by decide +kernel)) (fun _ h9 => h9) rfl dX1_deathsAt_8 ?_
    refine lv_iload_n hx hb dX1_deathsAt_11 rfl (lv_at hl 1 rfl) ?_
    refine lv_bipush (v := 50) hx hb dX1_deathsAt_12 (by decide) ?_
    refine lv_isub hx hb dX1_deathsAt_14 ?_
    refine va_iald hx hb hKK.1 hP 1 0 rfl rfl hin dX1_deathsAt_15 ?_
    refine lv_goto (tgt := 22) hx hb dX1_deathsAt_16 (by decide) ?_
    have hz : d (a - 50).toNatClampNeg = dAt d a := by unfold dAt; simp [bc_2]
    exact W.iret (v := (d (a - 50).toNatClampNeg)) hx hb hr (fun t ht hW => ⟨_, rfl, hz, ht⟩) (fun q hq => absurd hq List.not_mem_nil) dX1_deathsAt_22
set_option maxHeartbeats 4000000 in
set_option maxRecDepth 100000 in
theorem met_X1_rate (l : Launch) (dC : Nat → ClassId) (dI : Nat → Nat → Nat) (cI cW : ClassId) (X : Nat → Nat) (d r : Nat → Int32) (k : Nat) (hk : k < 3) : Met l yX1_rate wsX1_rate ({ frames := 0, cells := 0, slots := 0, locals := 0 }) (Pre0 dC dI cI cW [.ref (X 1), .int (nI k)] (tab cI X d r)) (vp_Si (fun z => z = r k)) 0 0 (fun _ => False) := by
  refine Met.ofW (cc := cX1_rate) (maxL := 2) (ret := (some .int)) (by decide) rfl ?_
  intro p e s m args below meth c s₁ B hml hv
  obtain ⟨rfl, hP, hKK⟩ := hv
  have hx := B.exec
  have hb := B.bytes
  have hr := B.returns
  have hts := atoms_spec (ws := wsX1_rate) B.pre
  have hown : s.vm.findClass RX1 = some m.cls := findClass_of_methodNamed B.named
  have hlocks := B.notSynchronized
  have hl := lv_entry ([.ref (X 1), .int (nI k)]) (n := 2) (Nat.le_of_ble_eq_true rfl)
  rw [lg_entry_eq]
  generalize (lg_sl ([.ref (X 1), .int (nI k)]) ++ List.replicate (2 - (lg_sl ([.ref (X 1), .int (nI k)])).length) Slot.unset).toArray = ls at hl ⊢
  have hl : lv_has ls 2 [(0, .ref (X 1)), (1, .int (nI k))] := hl
  refine lv_iload_n hx hb dX1_rate_0 rfl (lv_at hl 1 rfl) ?_
  refine lv_if_lt (tgt := 18) hx hb dX1_rate_1 (by decide) (fun c_1 => ?_) (fun c_1 => ?_)
  · exact absurd c_1 (nI_pos (by omega))
  · refine lv_iload_n hx hb dX1_rate_4 rfl (lv_at hl 1 rfl) ?_
    refine lv_iconst (v := 3) hx hb dX1_rate_5 (by decide) ?_
    refine lv_icmp_ge (tgt := 18) hx hb dX1_rate_6 (by decide) (fun c_2 => ?_) (fun c_2 => ?_)
    · exact absurd c_2 (nI_ge (b := 3) hk (by omega))
    · refine lv_aload_n hx hb dX1_rate_9 rfl (lv_at hl 0 rfl) ?_
      refine va_get (D := (dC, dI)) (ci := 1) (v := .ref (X 3)) (C := RX1) (T := TX1) (N := 2) hx hb hts (by decide +kernel) hown hKK.1 hP 0 rfl rfl 1 (by decide) (hts (.fieldLink RX1 15 "WidowPennies$Tables" "rates" "[I") (by decide +kernel)) (fun _ h9 => h9) rfl dX1_rate_10 ?_
      refine lv_iload_n hx hb dX1_rate_13 rfl (lv_at hl 1 rfl) ?_
      refine va_iald hx hb hKK.1 hP 2 0 rfl rfl (vp_in_nI hk (by omega)) dX1_rate_14 ?_
      refine lv_goto (tgt := 19) hx hb dX1_rate_15 (by decide) ?_
      have hz : r (nI k).toNatClampNeg = r k := by rw [clamp_nI (by omega)]
      exact W.iret (v := (r (nI k).toNatClampNeg)) hx hb hr (fun t ht hW => ⟨_, rfl, hz, ht⟩) (fun q hq => absurd hq List.not_mem_nil) dX1_rate_19
set_option maxHeartbeats 4000000 in
set_option maxRecDepth 100000 in
/-- from the oldest age down -/
theorem met_X1_worthWith (l : Launch) (dC : Nat → ClassId) (dI : Nat → Nat → Nat) (cI cW : ClassId) (X : Nat → Nat) (d r : Nat → Int32) (ka kb : Nat) (i : Int32) (h1 : 50 ≤ ka) (h2 : ka ≤ 99) (h3 : kb ≤ 30) (hi : ¬ (1000 : Int32) + i = 0) (hi0 : ¬ i < 0) : Met l yX1_worthWith wsX1_worthWith ({ frames := 2, cells := 0, slots := 0, locals := 41 }) (Pre0 dC dI cI cW [.ref (X 1), .int (nI ka), .int (nI kb), .int i] (tab cI X d r)) (vp_Si (fun z => z = wN d i (100 - ka) kb)) 0 0 (fun _ => False) := by
  refine Met.ofW (cc := cX1_worthWith) (maxL := 8) (ret := (some .int)) (by decide) rfl ?_
  intro p e s m args below meth c s₁ B hml hv
  obtain ⟨rfl, hP, hKK⟩ := hv
  have hx := B.exec
  have hb := B.bytes
  have hr := B.returns
  have hts := atoms_spec (ws := wsX1_worthWith) B.pre
  have hown : s.vm.findClass RX1 = some m.cls := findClass_of_methodNamed B.named
  have hlocks := B.notSynchronized
  have hl := lv_entry ([.ref (X 1), .int (nI ka), .int (nI kb), .int i]) (n := 8) (Nat.le_of_ble_eq_true rfl)
  rw [lg_entry_eq]
  generalize (lg_sl ([.ref (X 1), .int (nI ka), .int (nI kb), .int i]) ++ List.replicate (8 - (lg_sl ([.ref (X 1), .int (nI ka), .int (nI kb), .int i])).length) Slot.unset).toArray = ls at hl ⊢
  have hl : lv_has ls 8 [(0, .ref (X 1)), (1, .int (nI ka)), (2, .int (nI kb)), (3, .int i)] := hl
  have key : ∀ (n j : Nat), j + n = 100 - ka → ∀ ls : Array Slot, lv_has ls 8 [(6, .int (nI (99 - j))), (5, .int (wN d i j (kb - (100 - ka - j)))), (4, .int (nI (ka + kb))), (0, .ref (X 1)), (1, .int (nI ka)), (2, .int (nI kb)), (3, .int i)] → W p l e (headSpec wsX1_worthWith ({ frames := 2, cells := 0, slots := 0, locals := 41 })).room s m (([.ref (X 1), .int (nI ka), .int (nI kb), .int i] : List Value).toArray) below meth c s.heap [] 0 0 (MQ below (vp_Si (fun z => z = wN d i (100 - ka) kb)) ([.ref (X 1), .int (nI ka), .int (nI kb), .int i] : List Value).toArray s 0 0 (fun _ => False)) (F0 m 25 ls []) := by
    intro n
    induction n with
    | zero =>
      intro j hj ls hl
      refine lv_iload hx hb dX1_worthWith_25 (lv_at hl 0 rfl) ?_
      refine lv_iload_n hx hb dX1_worthWith_27 rfl (lv_at hl 4 rfl) ?_
      refine lv_icmp_lt (tgt := 77) hx hb dX1_worthWith_28 (by decide) (fun c_1 => ?_) (fun c_1 => ?_)
      · refine lv_iload hx hb dX1_worthWith_77 (lv_at hl 1 rfl) ?_
        have hz : wN d i j (kb - (100 - ka - j)) = wN d i (100 - ka) kb := by rw [show j = 100 - ka by omega, show kb - (100 - ka - (100 - ka)) = kb by omega]
        exact W.iret (v := (wN d i j (kb - (100 - ka - j)))) hx hb hr (fun t ht hW => ⟨_, rfl, hz, ht⟩) (fun q hq => absurd hq List.not_mem_nil) dX1_worthWith_79
      · exact absurd ((lt_nI (by omega)).mpr (by omega)) c_1
    | succ n ih =>
      intro j hj ls hl
      have hj1 : j < 100 - ka := by omega
      refine lv_iload hx hb dX1_worthWith_25 (lv_at hl 0 rfl) ?_
      refine lv_iload_n hx hb dX1_worthWith_27 rfl (lv_at hl 4 rfl) ?_
      refine lv_icmp_lt (tgt := 77) hx hb dX1_worthWith_28 (by decide) (fun c_1 => ?_) (fun c_1 => ?_)
      · exact absurd c_1 (fun q => absurd ((lt_nI (by omega)).mp q) (by omega))
      · refine lv_iload hx hb dX1_worthWith_31 (lv_at hl 0 rfl) ?_
        refine lv_iload hx hb dX1_worthWith_33 (lv_at hl 2 rfl) ?_
        refine lv_icmp_lt (tgt := 44) hx hb dX1_worthWith_35 (by decide) (fun c_2 => ?_) (fun c_2 => ?_)
        · have hfree : 99 - j < ka + kb := (lt_nI (by omega)).mp c_2
          refine lv_iconst (v := 0) hx hb dX1_worthWith_44 (by decide) ?_
          refine lv_istore (lv' := [(7, .int 0), (6, .int (nI (99 - j))), (5, .int (wN d i j (kb - (100 - ka - j)))), (4, .int (nI (ka + kb))), (0, .ref (X 1)), (1, .int (nI ka)), (2, .int (nI kb)), (3, .int i)]) hx hb dX1_worthWith_45 hl (by decide) rfl (fun ls hl => ?_)
          refine lv_sipush (v := 1000) hx hb dX1_worthWith_47 (by decide) ?_
          refine lv_aload_n hx hb dX1_worthWith_50 rfl (lv_at hl 4 rfl) ?_
          refine lv_iload hx hb dX1_worthWith_51 (lv_at hl 1 rfl) ?_
          refine rd_i (runV0 (As := [.int (nI (99 - j))]) (rest := [.int 1000]) ⟨hx, hb, hml, hown, hts⟩ (met_X1_deathsAt l dC dI cI cW X d r (nI (99 - j))) (cwV 1 hts gX1_worthWith_X1_deathsAt rfl rfl rfl (by decide +kernel) ⟨Nat.le_of_ble_eq_true rfl, Nat.le_of_ble_eq_true rfl⟩) hKK hP 1 0 rfl rfl rfl hl.1 (Nat.le_of_ble_eq_true rfl) rfl dX1_worthWith_53 ⟨Nat.zero_le _, Nat.zero_le _⟩) (fun r_3 hr_3 => ?_)
          subst hr_3
          refine lv_isub hx hb dX1_worthWith_56 ?_
          refine lv_iload hx hb dX1_worthWith_57 (lv_at hl 0 rfl) ?_
          refine lv_iload hx hb dX1_worthWith_59 (lv_at hl 2 rfl) ?_
          refine lv_iadd hx hb dX1_worthWith_61 ?_
          refine lv_imul hx hb dX1_worthWith_62 ?_
          refine lv_sipush (v := 1000) hx hb dX1_worthWith_63 (by decide) ?_
          refine lv_iload_n hx hb dX1_worthWith_66 rfl (lv_at hl 7 rfl) ?_
          refine lv_iadd hx hb dX1_worthWith_67 ?_
          refine lv_idiv hx hb dX1_worthWith_68 hi ?_
          rw [show (((1000 - (dAt d (nI (99 - j)))) * (0 + (wN d i j (kb - (100 - ka - j))))) / (1000 + i) : Int32) = wN d i (j + 1) (kb - (100 - ka - (j + 1))) from wN_free d i h1 hj1 hfree]
          refine lv_istore (lv' := [(5, .int (wN d i (j + 1) (kb - (100 - ka - (j + 1))))), (7, .int 0), (6, .int (nI (99 - j))), (4, .int (nI (ka + kb))), (0, .ref (X 1)), (1, .int (nI ka)), (2, .int (nI kb)), (3, .int i)]) hx hb dX1_worthWith_69 hl (by decide) rfl (fun ls hl => ?_)
          refine lv_iinc (v := (nI (99 - (j + 1)))) (lv' := [(6, .int (nI (99 - (j + 1)))), (5, .int (wN d i (j + 1) (kb - (100 - ka - (j + 1))))), (7, .int 0), (4, .int (nI (ka + kb))), (0, .ref (X 1)), (1, .int (nI ka)), (2, .int (nI kb)), (3, .int i)]) hx hb dX1_worthWith_71 hl (k := 2) rfl (dec_nI (by omega)) (by decide) rfl (fun ls hl => ?_)
          refine lv_goto (tgt := 25) hx hb dX1_worthWith_74 (by decide) ?_
          exact ih (j + 1) (by omega) ls (lv_sub hl [0, 1, 3, 4, 5, 6, 7] rfl)
        · have hpaid : ka + kb ≤ 99 - j := Nat.not_lt.mp (fun q => c_2 ((lt_nI (by omega)).mpr q))
          refine lv_sipush (v := 1000) hx hb dX1_worthWith_38 (by decide) ?_
          refine lv_goto (tgt := 45) hx hb dX1_worthWith_41 (by decide) ?_
          refine lv_istore (lv' := [(7, .int 1000), (6, .int (nI (99 - j))), (5, .int (wN d i j (kb - (100 - ka - j)))), (4, .int (nI (ka + kb))), (0, .ref (X 1)), (1, .int (nI ka)), (2, .int (nI kb)), (3, .int i)]) hx hb dX1_worthWith_45 hl (by decide) rfl (fun ls hl => ?_)
          refine lv_sipush (v := 1000) hx hb dX1_worthWith_47 (by decide) ?_
          refine lv_aload_n hx hb dX1_worthWith_50 rfl (lv_at hl 4 rfl) ?_
          refine lv_iload hx hb dX1_worthWith_51 (lv_at hl 1 rfl) ?_
          refine rd_i (runV0 (As := [.int (nI (99 - j))]) (rest := [.int 1000]) ⟨hx, hb, hml, hown, hts⟩ (met_X1_deathsAt l dC dI cI cW X d r (nI (99 - j))) (cwV 1 hts gX1_worthWith_X1_deathsAt rfl rfl rfl (by decide +kernel) ⟨Nat.le_of_ble_eq_true rfl, Nat.le_of_ble_eq_true rfl⟩) hKK hP 1 0 rfl rfl rfl hl.1 (Nat.le_of_ble_eq_true rfl) rfl dX1_worthWith_53 ⟨Nat.zero_le _, Nat.zero_le _⟩) (fun r_5 hr_5 => ?_)
          subst hr_5
          refine lv_isub hx hb dX1_worthWith_56 ?_
          refine lv_iload hx hb dX1_worthWith_57 (lv_at hl 0 rfl) ?_
          refine lv_iload hx hb dX1_worthWith_59 (lv_at hl 2 rfl) ?_
          refine lv_iadd hx hb dX1_worthWith_61 ?_
          refine lv_imul hx hb dX1_worthWith_62 ?_
          refine lv_sipush (v := 1000) hx hb dX1_worthWith_63 (by decide) ?_
          refine lv_iload_n hx hb dX1_worthWith_66 rfl (lv_at hl 7 rfl) ?_
          refine lv_iadd hx hb dX1_worthWith_67 ?_
          refine lv_idiv hx hb dX1_worthWith_68 hi ?_
          rw [show (((1000 - (dAt d (nI (99 - j)))) * (1000 + (wN d i j (kb - (100 - ka - j))))) / (1000 + i) : Int32) = wN d i (j + 1) (kb - (100 - ka - (j + 1))) from wN_paid d i h1 hj1 hpaid]
          refine lv_istore (lv' := [(5, .int (wN d i (j + 1) (kb - (100 - ka - (j + 1))))), (7, .int 1000), (6, .int (nI (99 - j))), (4, .int (nI (ka + kb))), (0, .ref (X 1)), (1, .int (nI ka)), (2, .int (nI kb)), (3, .int i)]) hx hb dX1_worthWith_69 hl (by decide) rfl (fun ls hl => ?_)
          refine lv_iinc (v := (nI (99 - (j + 1)))) (lv' := [(6, .int (nI (99 - (j + 1)))), (5, .int (wN d i (j + 1) (kb - (100 - ka - (j + 1))))), (7, .int 1000), (4, .int (nI (ka + kb))), (0, .ref (X 1)), (1, .int (nI ka)), (2, .int (nI kb)), (3, .int i)]) hx hb dX1_worthWith_71 hl (k := 2) rfl (dec_nI (by omega)) (by decide) rfl (fun ls hl => ?_)
          refine lv_goto (tgt := 25) hx hb dX1_worthWith_74 (by decide) ?_
          exact ih (j + 1) (by omega) ls (lv_sub hl [0, 1, 3, 4, 5, 6, 7] rfl)
  refine lv_iload_n hx hb dX1_worthWith_0 rfl (lv_at hl 1 rfl) ?_
  refine lv_iload_n hx hb dX1_worthWith_1 rfl (lv_at hl 2 rfl) ?_
  refine lv_iadd hx hb dX1_worthWith_2 ?_
  rw [show ((nI ka) + (nI kb) : Int32) = nI (ka + kb) from nI_add _ _]
  refine lv_istore (lv' := [(4, .int (nI (ka + kb))), (0, .ref (X 1)), (1, .int (nI ka)), (2, .int (nI kb)), (3, .int i)]) hx hb dX1_worthWith_3 hl (by decide) rfl (fun ls hl => ?_)
  refine lv_iload hx hb dX1_worthWith_5 (lv_at hl 0 rfl) ?_
  refine lv_bipush (v := 99) hx hb dX1_worthWith_7 (by decide) ?_
  refine lv_icmp_gt (tgt := 16) hx hb dX1_worthWith_9 (by decide) (fun c_2 => ?_) (fun c_2 => ?_)
  · refine lv_iconst (v := 0) hx hb dX1_worthWith_16 (by decide) ?_
    have hz : 0 = wN d i (100 - ka) kb := (wN_late d i _ _ (by have := (lt_nI (a := 99) (by omega)).mp c_2; omega)).symm
    exact W.iret (v := 0) hx hb hr (fun t ht hW => ⟨_, rfl, hz, ht⟩) (fun q hq => absurd hq List.not_mem_nil) dX1_worthWith_17
  · refine lv_iload_n hx hb dX1_worthWith_12 rfl (lv_at hl 4 rfl) ?_
    refine lv_if_ge (tgt := 18) hx hb dX1_worthWith_13 (by decide) (fun c_3 => ?_) (fun c_3 => ?_)
    · refine lv_iconst (v := 0) hx hb dX1_worthWith_18 (by decide) ?_
      refine lv_istore (lv' := [(5, .int 0), (4, .int (nI (ka + kb))), (0, .ref (X 1)), (1, .int (nI ka)), (2, .int (nI kb)), (3, .int i)]) hx hb dX1_worthWith_19 hl (by decide) rfl (fun ls hl => ?_)
      refine lv_bipush (v := 99) hx hb dX1_worthWith_21 (by decide) ?_
      refine lv_istore (lv' := [(6, .int 99), (5, .int 0), (4, .int (nI (ka + kb))), (0, .ref (X 1)), (1, .int (nI ka)), (2, .int (nI kb)), (3, .int i)]) hx hb dX1_worthWith_23 hl (by decide) rfl (fun ls hl => ?_)
      exact key (100 - ka) 0 (by omega) ls (lv_sub hl [0, 1, 2, 3, 4, 5, 6] rfl)
    · exact absurd (Int32.not_lt.mp hi0) c_3
set_option maxHeartbeats 4000000 in
set_option maxRecDepth 100000 in
theorem met_X2_lives (l : Launch) (dC : Nat → ClassId) (dI : Nat → Nat → Nat) (cI cW : ClassId) (q : Nat) (f : Nat → Int32) : Met l yX2_lives wsX2_lives ({ frames := 0, cells := 0, slots := 0, locals := 0 }) (Pre0 dC dI cI cW [.ref q] ([(q, .inr (2, row f))])) (vp_Si (fun z => z = (if f 4 = 0 then (1 : Int32) else 0))) 0 0 (fun _ => False) := by
  refine Met.ofW (cc := cX2_lives) (maxL := 1) (ret := (some .boolean)) (by decide) rfl ?_
  intro p e s m args below meth c s₁ B hml hv
  obtain ⟨rfl, hP, hKK⟩ := hv
  have hx := B.exec
  have hb := B.bytes
  have hr := B.returns
  have hts := atoms_spec (ws := wsX2_lives) B.pre
  have hown : s.vm.findClass RX2 = some m.cls := findClass_of_methodNamed B.named
  have hlocks := B.notSynchronized
  have hl := lv_entry ([.ref q]) (n := 1) (Nat.le_of_ble_eq_true rfl)
  rw [lg_entry_eq]
  generalize (lg_sl ([.ref q]) ++ List.replicate (1 - (lg_sl ([.ref q])).length) Slot.unset).toArray = ls at hl ⊢
  have hl : lv_has ls 1 [(0, .ref q)] := hl
  refine lv_aload_n hx hb dX2_lives_0 rfl (lv_at hl 0 rfl) ?_
  refine va_get (D := (dC, dI)) (ci := 2) (v := .int (f 4)) (C := RX2) (T := TX2) (N := 7) hx hb hts (by decide +kernel) hown hKK.1 hP 0 rfl rfl 4 (by decide) (hts (.fieldLink RX2 9 "WidowPennies$Widow" "state" "I") (by decide +kernel)) (fun _ h9 => h9) rfl dX2_lives_1 ?_
  refine lv_if_ne (tgt := 11) hx hb dX2_lives_4 (by decide) (fun c_1 => ?_) (fun c_1 => ?_)
  · refine lv_iconst (v := 0) hx hb dX2_lives_11 (by decide) ?_
    have hz : 0 = (if f 4 = 0 then (1 : Int32) else 0) := by simp_all
    exact W.zret (v := 0) hx hb hr (by first | rfl | (split <;> rfl)) (fun t ht hW => ⟨_, rfl, hz, ht⟩) (fun q hq => absurd hq List.not_mem_nil) dX2_lives_12
  · refine lv_iconst (v := 1) hx hb dX2_lives_7 (by decide) ?_
    refine lv_goto (tgt := 12) hx hb dX2_lives_8 (by decide) ?_
    have hz : 1 = (if f 4 = 0 then (1 : Int32) else 0) := by simp_all
    exact W.zret (v := 1) hx hb hr (by first | rfl | (split <;> rfl)) (fun t ht hW => ⟨_, rfl, hz, ht⟩) (fun q hq => absurd hq List.not_mem_nil) dX2_lives_12
set_option maxHeartbeats 4000000 in
set_option maxRecDepth 100000 in
theorem met_X2_canGiveUp (l : Launch) (dC : Nat → ClassId) (dI : Nat → Nat → Nat) (cI cW : ClassId) (q : Nat) (f : Nat → Int32) : Met l yX2_canGiveUp wsX2_canGiveUp ({ frames := 1, cells := 0, slots := 0, locals := 20 }) (Pre0 dC dI cI cW [.ref q] ([(q, .inr (2, row f))])) (vp_Si (fun z => z = (if f 4 = 0 ∧ 2 ≤ f 3 then (1 : Int32) else 0))) 0 0 (fun _ => False) := by
  refine Met.ofW (cc := cX2_canGiveUp) (maxL := 1) (ret := (some .boolean)) (by decide) rfl ?_
  intro p e s m args below meth c s₁ B hml hv
  obtain ⟨rfl, hP, hKK⟩ := hv
  have hx := B.exec
  have hb := B.bytes
  have hr := B.returns
  have hts := atoms_spec (ws := wsX2_canGiveUp) B.pre
  have hown : s.vm.findClass RX2 = some m.cls := findClass_of_methodNamed B.named
  have hlocks := B.notSynchronized
  have hl := lv_entry ([.ref q]) (n := 1) (Nat.le_of_ble_eq_true rfl)
  rw [lg_entry_eq]
  generalize (lg_sl ([.ref q]) ++ List.replicate (1 - (lg_sl ([.ref q])).length) Slot.unset).toArray = ls at hl ⊢
  have hl : lv_has ls 1 [(0, .ref q)] := hl
  refine lv_aload_n hx hb dX2_canGiveUp_0 rfl (lv_at hl 0 rfl) ?_
  refine rd_i (runV0 (As := []) (rest := []) ⟨hx, hb, hml, hown, hts⟩ (met_X2_lives l dC dI cI cW q f) (cwV 0 hts gX2_canGiveUp_X2_lives rfl rfl rfl (by decide +kernel) ⟨Nat.le_of_ble_eq_true rfl, Nat.le_of_ble_eq_true rfl⟩) hKK hP 2 0 rfl rfl rfl hl.1 (Nat.le_of_ble_eq_true rfl) rfl dX2_canGiveUp_1 ⟨Nat.zero_le _, Nat.zero_le _⟩) (fun r_1 hr_1 => ?_)
  subst hr_1
  refine lv_if_eq (tgt := 19) hx hb dX2_canGiveUp_4 (by decide) (fun c_2 => ?_) (fun c_2 => ?_)
  · have bc_2 : ¬ (f 4 = 0) := b0.mp c_2
    refine lv_iconst (v := 0) hx hb dX2_canGiveUp_19 (by decide) ?_
    have hz : 0 = (if f 4 = 0 ∧ 2 ≤ f 3 then (1 : Int32) else 0) := by simp_all [i_le, i_lt] <;> omega
    exact W.zret (v := 0) hx hb hr (by first | rfl | (split <;> rfl)) (fun t ht hW => ⟨_, rfl, hz, ht⟩) (fun q hq => absurd hq List.not_mem_nil) dX2_canGiveUp_20
  · have bc_2 : f 4 = 0 := b1.mp c_2
    refine lv_aload_n hx hb dX2_canGiveUp_7 rfl (lv_at hl 0 rfl) ?_
    refine va_get (D := (dC, dI)) (ci := 2) (v := .int (f 3)) (C := RX2) (T := TX2) (N := 7) hx hb hts (by decide +kernel) hown hKK.1 hP 0 rfl rfl 3 (by decide) (hts (.fieldLink RX2 19 "WidowPennies$Widow" "held" "I") (by decide +kernel)) (fun _ h9 => h9) rfl dX2_canGiveUp_8 ?_
    refine lv_iconst (v := 2) hx hb dX2_canGiveUp_11 (by decide) ?_
    refine lv_icmp_lt (tgt := 19) hx hb dX2_canGiveUp_12 (by decide) (fun c_3 => ?_) (fun c_3 => ?_)
    · refine lv_iconst (v := 0) hx hb dX2_canGiveUp_19 (by decide) ?_
      have hz : 0 = (if f 4 = 0 ∧ 2 ≤ f 3 then (1 : Int32) else 0) := by simp_all [i_le, i_lt] <;> omega
      exact W.zret (v := 0) hx hb hr (by first | rfl | (split <;> rfl)) (fun t ht hW => ⟨_, rfl, hz, ht⟩) (fun q hq => absurd hq List.not_mem_nil) dX2_canGiveUp_20
    · refine lv_iconst (v := 1) hx hb dX2_canGiveUp_15 (by decide) ?_
      refine lv_goto (tgt := 20) hx hb dX2_canGiveUp_16 (by decide) ?_
      have hz : 1 = (if f 4 = 0 ∧ 2 ≤ f 3 then (1 : Int32) else 0) := by simp_all [i_le, i_lt] <;> omega
      exact W.zret (v := 1) hx hb hr (by first | rfl | (split <;> rfl)) (fun t ht hW => ⟨_, rfl, hz, ht⟩) (fun q hq => absurd hq List.not_mem_nil) dX2_canGiveUp_20
set_option maxHeartbeats 4000000 in
set_option maxRecDepth 100000 in
theorem met_X1_worthNow (l : Launch) (dC : Nat → ClassId) (dI : Nat → Nat → Nat) (cI cW : ClassId) (X : Nat → Nat) (d r : Nat → Int32) (ka kb : Nat) (h1 : 50 ≤ ka) (h2 : ka ≤ 99) (h3 : kb ≤ 30) (hi : ¬ (1000 : Int32) + r 0 = 0) (hi0 : ¬ r 0 < 0) : Met l yX1_worthNow wsX1_worthNow ({ frames := 3, cells := 0, slots := 0, locals := 68 }) (Pre0 dC dI cI cW [.ref (X 1), .int (nI ka), .int (nI kb)] (tab cI X d r)) (vp_Si (fun z => z = wN d (r 0) (100 - ka) kb)) 0 0 (fun _ => False) := by
  refine Met.ofW (cc := cX1_worthNow) (maxL := 3) (ret := (some .int)) (by decide) rfl ?_
  intro p e s m args below meth c s₁ B hml hv
  obtain ⟨rfl, hP, hKK⟩ := hv
  have hx := B.exec
  have hb := B.bytes
  have hr := B.returns
  have hts := atoms_spec (ws := wsX1_worthNow) B.pre
  have hown : s.vm.findClass RX1 = some m.cls := findClass_of_methodNamed B.named
  have hlocks := B.notSynchronized
  have hl := lv_entry ([.ref (X 1), .int (nI ka), .int (nI kb)]) (n := 3) (Nat.le_of_ble_eq_true rfl)
  rw [lg_entry_eq]
  generalize (lg_sl ([.ref (X 1), .int (nI ka), .int (nI kb)]) ++ List.replicate (3 - (lg_sl ([.ref (X 1), .int (nI ka), .int (nI kb)])).length) Slot.unset).toArray = ls at hl ⊢
  have hl : lv_has ls 3 [(0, .ref (X 1)), (1, .int (nI ka)), (2, .int (nI kb))] := hl
  refine lv_aload_n hx hb dX1_worthNow_0 rfl (lv_at hl 0 rfl) ?_
  refine lv_iload_n hx hb dX1_worthNow_1 rfl (lv_at hl 1 rfl) ?_
  refine lv_iload_n hx hb dX1_worthNow_2 rfl (lv_at hl 2 rfl) ?_
  refine lv_aload_n hx hb dX1_worthNow_3 rfl (lv_at hl 0 rfl) ?_
  refine va_get (D := (dC, dI)) (ci := 1) (v := .ref (X 3)) (C := RX1) (T := TX1) (N := 2) hx hb hts (by decide +kernel) hown hKK.1 hP 0 rfl rfl 1 (by decide) (hts (.fieldLink RX1 15 "WidowPennies$Tables" "rates" "[I") (by decide +kernel)) (fun _ h9 => h9) rfl dX1_worthNow_4 ?_
  refine lv_iconst (v := 0) hx hb dX1_worthNow_7 (by decide) ?_
  refine va_iald hx hb hKK.1 hP 2 0 rfl rfl (vp_in_nI (n := 0) (by omega) (by omega)) dX1_worthNow_8 ?_
  rw [show r (0 : Int32).toNatClampNeg = r 0 from rfl]
  refine rd_i (runV0 (As := [.int (nI ka), .int (nI kb), .int (r 0)]) (rest := []) ⟨hx, hb, hml, hown, hts⟩ (met_X1_worthWith l dC dI cI cW X d r ka kb (r 0) h1 h2 h3 hi hi0) (cwV 3 hts gX1_worthNow_X1_worthWith rfl rfl rfl (by decide +kernel) ⟨Nat.le_of_ble_eq_true rfl, Nat.le_of_ble_eq_true rfl⟩) hKK hP 1 0 rfl rfl rfl hl.1 (Nat.le_of_ble_eq_true rfl) rfl dX1_worthNow_9 ⟨Nat.zero_le _, Nat.zero_le _⟩) (fun r_1 hr_1 => ?_)
  subst hr_1
  have hz : wN d (r 0) (100 - ka) kb = wN d (r 0) (100 - ka) kb := rfl
  exact W.iret (v := (wN d (r 0) (100 - ka) kb)) hx hb hr (fun t ht hW => ⟨_, rfl, hz, ht⟩) (fun q hq => absurd hq List.not_mem_nil) dX1_worthNow_12
set_option maxHeartbeats 4000000 in
set_option maxRecDepth 100000 in
theorem met_X1_priceOf (l : Launch) (dC : Nat → ClassId) (dI : Nat → Nat → Nat) (cI cW : ClassId) (X : Nat → Nat) (d r : Nat → Int32) (x w : Int32) : Met l yX1_priceOf wsX1_priceOf ({ frames := 0, cells := 0, slots := 0, locals := 0 }) (Pre0 dC dI cI cW [.ref (X 1), .int x, .int w] (tab cI X d r)) (vp_Si (fun z => z = priceS (r 1) x w)) 0 0 (fun _ => False) := by
  refine Met.ofW (cc := cX1_priceOf) (maxL := 5) (ret := (some .int)) (by decide) rfl ?_
  intro p e s m args below meth c s₁ B hml hv
  obtain ⟨rfl, hP, hKK⟩ := hv
  have hx := B.exec
  have hb := B.bytes
  have hr := B.returns
  have hts := atoms_spec (ws := wsX1_priceOf) B.pre
  have hown : s.vm.findClass RX1 = some m.cls := findClass_of_methodNamed B.named
  have hlocks := B.notSynchronized
  have hl := lv_entry ([.ref (X 1), .int x, .int w]) (n := 5) (Nat.le_of_ble_eq_true rfl)
  rw [lg_entry_eq]
  generalize (lg_sl ([.ref (X 1), .int x, .int w]) ++ List.replicate (5 - (lg_sl ([.ref (X 1), .int x, .int w])).length) Slot.unset).toArray = ls at hl ⊢
  have hl : lv_has ls 5 [(0, .ref (X 1)), (1, .int x), (2, .int w)] := hl
  refine lv_iload_n hx hb dX1_priceOf_0 rfl (lv_at hl 2 rfl) ?_
  refine lv_if_ne (tgt := 6) hx hb dX1_priceOf_1 (by decide) (fun c_1 => ?_) (fun c_1 => ?_)
  · refine lv_iload_n hx hb dX1_priceOf_6 rfl (lv_at hl 1 rfl) ?_
    refine lv_iload_n hx hb dX1_priceOf_7 rfl (lv_at hl 2 rfl) ?_
    refine lv_imul hx hb dX1_priceOf_8 ?_
    refine lv_sipush (v := 1000) hx hb dX1_priceOf_9 (by decide) ?_
    refine lv_idiv hx hb dX1_priceOf_12 (by decide) ?_
    refine lv_istore_n (lv' := [(3, .int ((x * w) / 1000)), (0, .ref (X 1)), (1, .int x), (2, .int w)]) hx hb dX1_priceOf_13 rfl hl (by decide) rfl (fun ls hl => ?_)
    refine lv_iload_n hx hb dX1_priceOf_14 rfl (lv_at hl 0 rfl) ?_
    refine lv_iload_n hx hb dX1_priceOf_15 rfl (lv_at hl 0 rfl) ?_
    refine lv_aload_n hx hb dX1_priceOf_16 rfl (lv_at hl 1 rfl) ?_
    refine va_get (D := (dC, dI)) (ci := 1) (v := .ref (X 3)) (C := RX1) (T := TX1) (N := 2) hx hb hts (by decide +kernel) hown hKK.1 hP 0 rfl rfl 1 (by decide) (hts (.fieldLink RX1 15 "WidowPennies$Tables" "rates" "[I") (by decide +kernel)) (fun _ h9 => h9) rfl dX1_priceOf_17 ?_
    refine lv_iconst (v := 1) hx hb dX1_priceOf_20 (by decide) ?_
    refine va_iald hx hb hKK.1 hP 2 0 rfl rfl (vp_in_nI (n := 1) (by omega) (by omega)) dX1_priceOf_21 ?_
    rw [show r (1 : Int32).toNatClampNeg = r 1 from rfl]
    refine lv_imul hx hb dX1_priceOf_22 ?_
    refine lv_bipush (v := 100) hx hb dX1_priceOf_23 (by decide) ?_
    refine lv_idiv hx hb dX1_priceOf_25 (by decide) ?_
    refine lv_iadd hx hb dX1_priceOf_26 ?_
    refine lv_istore (lv' := [(4, .int (((x * w) / 1000) + ((((x * w) / 1000) * (r 1)) / 100))), (3, .int ((x * w) / 1000)), (0, .ref (X 1)), (1, .int x), (2, .int w)]) hx hb dX1_priceOf_27 hl (by decide) rfl (fun ls hl => ?_)
    refine lv_iload hx hb dX1_priceOf_29 (lv_at hl 0 rfl) ?_
    refine lv_iconst (v := 1) hx hb dX1_priceOf_31 (by decide) ?_
    refine lv_icmp_ge (tgt := 39) hx hb dX1_priceOf_32 (by decide) (fun c_2 => ?_) (fun c_2 => ?_)
    · refine lv_iload hx hb dX1_priceOf_39 (lv_at hl 0 rfl) ?_
      have hz : ((x * w) / 1000) + ((((x * w) / 1000) * (r 1)) / 100) = priceS (r 1) x w := by unfold priceS; rw [if_neg c_1, if_neg (Int32.not_lt.mpr c_2)]
      exact W.iret (v := (((x * w) / 1000) + ((((x * w) / 1000) * (r 1)) / 100))) hx hb hr (fun t ht hW => ⟨_, rfl, hz, ht⟩) (fun q hq => absurd hq List.not_mem_nil) dX1_priceOf_41
    · refine lv_iconst (v := 1) hx hb dX1_priceOf_35 (by decide) ?_
      refine lv_goto (tgt := 41) hx hb dX1_priceOf_36 (by decide) ?_
      have hz : 1 = priceS (r 1) x w := by unfold priceS; rw [if_neg c_1, if_pos (Int32.not_le.mp c_2)]
      exact W.iret (v := 1) hx hb hr (fun t ht hW => ⟨_, rfl, hz, ht⟩) (fun q hq => absurd hq List.not_mem_nil) dX1_priceOf_41
  · refine lv_iconst (v := 0) hx hb dX1_priceOf_4 (by decide) ?_
    have hz : 0 = priceS (r 1) x w := by unfold priceS; rw [if_pos c_1]
    exact W.iret (v := 0) hx hb hr (fun t ht hW => ⟨_, rfl, hz, ht⟩) (fun q hq => absurd hq List.not_mem_nil) dX1_priceOf_5
set_option maxHeartbeats 4000000 in
set_option maxRecDepth 100000 in
theorem met_X1_keptWith (l : Launch) (dC : Nat → ClassId) (dI : Nat → Nat → Nat) (cI cW : ClassId) (X : Nat → Nat) (d r : Nat → Int32) (q : Nat) (f : Nat → Int32) (hok : okW f) (i : Int32) (hi : ¬ (1000 : Int32) + i = 0) (hi0 : ¬ i < 0) : Met l yX1_keptWith wsX1_keptWith ({ frames := 3, cells := 0, slots := 0, locals := 68 }) (Pre0 dC dI cI cW [.ref (X 1), .ref q, .int i] (tab cI X d r ++ [(q, .inr (2, row f))])) (vp_Si (fun z => z = keptS d i f)) 0 0 (fun _ => False) := by
  refine Met.ofW (cc := cX1_keptWith) (maxL := 3) (ret := (some .int)) (by decide) rfl ?_
  intro p e s m args below meth c s₁ B hml hv
  obtain ⟨rfl, hP, hKK⟩ := hv
  have hx := B.exec
  have hb := B.bytes
  have hr := B.returns
  have hts := atoms_spec (ws := wsX1_keptWith) B.pre
  have hown : s.vm.findClass RX1 = some m.cls := findClass_of_methodNamed B.named
  have hlocks := B.notSynchronized
  have hl := lv_entry ([.ref (X 1), .ref q, .int i]) (n := 3) (Nat.le_of_ble_eq_true rfl)
  rw [lg_entry_eq]
  generalize (lg_sl ([.ref (X 1), .ref q, .int i]) ++ List.replicate (3 - (lg_sl ([.ref (X 1), .ref q, .int i])).length) Slot.unset).toArray = ls at hl ⊢
  have hl : lv_has ls 3 [(0, .ref (X 1)), (1, .ref q), (2, .int i)] := hl
  refine lv_aload_n hx hb dX1_keptWith_0 rfl (lv_at hl 1 rfl) ?_
  refine rd_i (runV0 (As := []) (rest := []) ⟨hx, hb, hml, hown, hts⟩ (met_X2_lives l dC dI cI cW q f) (cwV 0 hts gX1_keptWith_X2_lives rfl rfl rfl (by decide +kernel) ⟨Nat.le_of_ble_eq_true rfl, Nat.le_of_ble_eq_true rfl⟩) hKK (ws_right hP) 2 0 rfl rfl rfl hl.1 (Nat.le_of_ble_eq_true rfl) rfl dX1_keptWith_1 ⟨Nat.zero_le _, Nat.zero_le _⟩) (fun r_1 hr_1 => ?_)
  subst hr_1
  refine lv_if_eq (tgt := 32) hx hb dX1_keptWith_4 (by decide) (fun c_2 => ?_) (fun c_2 => ?_)
  · have bc_2 : ¬ (f 4 = 0) := b0.mp c_2
    refine lv_iconst (v := 0) hx hb dX1_keptWith_32 (by decide) ?_
    have hz : 0 = keptS d i f := by rw [keptS, if_neg bc_2]
    exact W.iret (v := 0) hx hb hr (fun t ht hW => ⟨_, rfl, hz, ht⟩) (fun q hq => absurd hq List.not_mem_nil) dX1_keptWith_33
  · have bc_2 : f 4 = 0 := b1.mp c_2
    obtain ⟨⟨ka, hka, hka1, hka2⟩, ⟨kb, hkb, hkb1⟩, -⟩ := hok bc_2
    refine lv_aload_n hx hb dX1_keptWith_7 rfl (lv_at hl 1 rfl) ?_
    refine va_get (D := (dC, dI)) (ci := 2) (v := .int (f 1)) (C := RX2) (T := TX2) (N := 7) hx hb hts (by decide +kernel) hown hKK.1 hP 3 rfl rfl 1 (by decide) (hts (.fieldLink RX1 44 "WidowPennies$Widow" "sum" "I") (by decide +kernel)) (fun _ h9 => h9) rfl dX1_keptWith_8 ?_
    refine lv_aload_n hx hb dX1_keptWith_11 rfl (lv_at hl 0 rfl) ?_
    refine lv_aload_n hx hb dX1_keptWith_12 rfl (lv_at hl 1 rfl) ?_
    refine va_get (D := (dC, dI)) (ci := 2) (v := .int (f 0)) (C := RX2) (T := TX2) (N := 7) hx hb hts (by decide +kernel) hown hKK.1 hP 3 rfl rfl 0 (by decide) (hts (.fieldLink RX1 48 "WidowPennies$Widow" "age" "I") (by decide +kernel)) (fun _ h9 => h9) rfl dX1_keptWith_13 ?_
    rw [show (f 0 : Int32) = nI ka from hka]
    refine lv_aload_n hx hb dX1_keptWith_16 rfl (lv_at hl 1 rfl) ?_
    refine va_get (D := (dC, dI)) (ci := 2) (v := .int (f 2)) (C := RX2) (T := TX2) (N := 7) hx hb hts (by decide +kernel) hown hKK.1 hP 3 rfl rfl 2 (by decide) (hts (.fieldLink RX1 51 "WidowPennies$Widow" "wait" "I") (by decide +kernel)) (fun _ h9 => h9) rfl dX1_keptWith_17 ?_
    rw [show (f 2 : Int32) = nI kb from hkb]
    refine lv_iload_n hx hb dX1_keptWith_20 rfl (lv_at hl 2 rfl) ?_
    refine rd_i (runV0 (As := [.int (nI ka), .int (nI kb), .int i]) (rest := [.int (f 1)]) ⟨hx, hb, hml, hown, hts⟩ (met_X1_worthWith l dC dI cI cW X d r ka kb i hka1 hka2 hkb1 hi hi0) (cwV 3 hts gX1_keptWith_X1_worthWith rfl rfl rfl (by decide +kernel) ⟨Nat.le_of_ble_eq_true rfl, Nat.le_of_ble_eq_true rfl⟩) hKK (ws_left hP) 1 0 rfl rfl rfl hl.1 (Nat.le_of_ble_eq_true rfl) rfl dX1_keptWith_21 ⟨Nat.zero_le _, Nat.zero_le _⟩) (fun r_5 hr_5 => ?_)
    subst hr_5
    refine lv_imul hx hb dX1_keptWith_24 ?_
    refine lv_sipush (v := 1000) hx hb dX1_keptWith_25 (by decide) ?_
    refine lv_idiv hx hb dX1_keptWith_28 (by decide) ?_
    refine lv_goto (tgt := 33) hx hb dX1_keptWith_29 (by decide) ?_
    have hz : ((f 1) * (wN d i (100 - ka) kb)) / 1000 = keptS d i f := by rw [keptS, if_pos bc_2, hka, hkb, clamp_nI (by omega), clamp_nI (by omega)]
    exact W.iret (v := (((f 1) * (wN d i (100 - ka) kb)) / 1000)) hx hb hr (fun t ht hW => ⟨_, rfl, hz, ht⟩) (fun q hq => absurd hq List.not_mem_nil) dX1_keptWith_33
set_option maxHeartbeats 4000000 in
set_option maxRecDepth 100000 in
theorem met_X1_keptNow (l : Launch) (dC : Nat → ClassId) (dI : Nat → Nat → Nat) (cI cW : ClassId) (X : Nat → Nat) (d r : Nat → Int32) (q : Nat) (f : Nat → Int32) (hok : okW f) (hi : ¬ (1000 : Int32) + r 0 = 0) (hi0 : ¬ r 0 < 0) : Met l yX1_keptNow wsX1_keptNow ({ frames := 4, cells := 0, slots := 0, locals := 90 }) (Pre0 dC dI cI cW [.ref (X 1), .ref q] (tab cI X d r ++ [(q, .inr (2, row f))])) (vp_Si (fun z => z = keptS d (r 0) f)) 0 0 (fun _ => False) := by
  refine Met.ofW (cc := cX1_keptNow) (maxL := 2) (ret := (some .int)) (by decide) rfl ?_
  intro p e s m args below meth c s₁ B hml hv
  obtain ⟨rfl, hP, hKK⟩ := hv
  have hx := B.exec
  have hb := B.bytes
  have hr := B.returns
  have hts := atoms_spec (ws := wsX1_keptNow) B.pre
  have hown : s.vm.findClass RX1 = some m.cls := findClass_of_methodNamed B.named
  have hlocks := B.notSynchronized
  have hl := lv_entry ([.ref (X 1), .ref q]) (n := 2) (Nat.le_of_ble_eq_true rfl)
  rw [lg_entry_eq]
  generalize (lg_sl ([.ref (X 1), .ref q]) ++ List.replicate (2 - (lg_sl ([.ref (X 1), .ref q])).length) Slot.unset).toArray = ls at hl ⊢
  have hl : lv_has ls 2 [(0, .ref (X 1)), (1, .ref q)] := hl
  refine lv_aload_n hx hb dX1_keptNow_0 rfl (lv_at hl 0 rfl) ?_
  refine lv_aload_n hx hb dX1_keptNow_1 rfl (lv_at hl 1 rfl) ?_
  refine lv_aload_n hx hb dX1_keptNow_2 rfl (lv_at hl 0 rfl) ?_
  refine va_get (D := (dC, dI)) (ci := 1) (v := .ref (X 3)) (C := RX1) (T := TX1) (N := 2) hx hb hts (by decide +kernel) hown hKK.1 hP 0 rfl rfl 1 (by decide) (hts (.fieldLink RX1 15 "WidowPennies$Tables" "rates" "[I") (by decide +kernel)) (fun _ h9 => h9) rfl dX1_keptNow_3 ?_
  refine lv_iconst (v := 0) hx hb dX1_keptNow_6 (by decide) ?_
  refine va_iald hx hb hKK.1 hP 2 0 rfl rfl (vp_in_nI (n := 0) (by omega) (by omega)) dX1_keptNow_7 ?_
  rw [show r (0 : Int32).toNatClampNeg = r 0 from rfl]
  refine rd_i (runV0 (As := [.ref q, .int (r 0)]) (rest := []) ⟨hx, hb, hml, hown, hts⟩ (met_X1_keptWith l dC dI cI cW X d r q f hok (r 0) hi hi0) (cwV 2 hts gX1_keptNow_X1_keptWith rfl rfl rfl (by decide +kernel) ⟨Nat.le_of_ble_eq_true rfl, Nat.le_of_ble_eq_true rfl⟩) hKK hP 1 0 rfl rfl rfl hl.1 (Nat.le_of_ble_eq_true rfl) rfl dX1_keptNow_8 ⟨Nat.zero_le _, Nat.zero_le _⟩) (fun r_1 hr_1 => ?_)
  subst hr_1
  have hz : keptS d (r 0) f = keptS d (r 0) f := rfl
  exact W.iret (v := (keptS d (r 0) f)) hx hb hr (fun t ht hW => ⟨_, rfl, hz, ht⟩) (fun q hq => absurd hq List.not_mem_nil) dX1_keptNow_11
set_option maxHeartbeats 4000000 in
set_option maxRecDepth 100000 in
theorem met_X1_givenBack (l : Launch) (dC : Nat → ClassId) (dI : Nat → Nat → Nat) (cI cW : ClassId) (X : Nat → Nat) (d r : Nat → Int32) (q : Nat) (f : Nat → Int32) (hok : okW f) (hi : ¬ (1000 : Int32) + r 0 = 0) (hi0 : ¬ r 0 < 0) : Met l yX1_givenBack wsX1_givenBack ({ frames := 5, cells := 0, slots := 0, locals := 111 }) (Pre0 dC dI cI cW [.ref (X 1), .ref q] (tab cI X d r ++ [(q, .inr (2, row f))])) (vp_Si (fun z => z = backS d r f)) 0 0 (fun _ => False) := by
  refine Met.ofW (cc := cX1_givenBack) (maxL := 3) (ret := (some .int)) (by decide) rfl ?_
  intro p e s m args below meth c s₁ B hml hv
  obtain ⟨rfl, hP, hKK⟩ := hv
  have hx := B.exec
  have hb := B.bytes
  have hr := B.returns
  have hts := atoms_spec (ws := wsX1_givenBack) B.pre
  have hown : s.vm.findClass RX1 = some m.cls := findClass_of_methodNamed B.named
  have hlocks := B.notSynchronized
  have hl := lv_entry ([.ref (X 1), .ref q]) (n := 3) (Nat.le_of_ble_eq_true rfl)
  rw [lg_entry_eq]
  generalize (lg_sl ([.ref (X 1), .ref q]) ++ List.replicate (3 - (lg_sl ([.ref (X 1), .ref q])).length) Slot.unset).toArray = ls at hl ⊢
  have hl : lv_has ls 3 [(0, .ref (X 1)), (1, .ref q)] := hl
  refine lv_aload_n hx hb dX1_givenBack_0 rfl (lv_at hl 1 rfl) ?_
  refine rd_i (runV0 (As := []) (rest := []) ⟨hx, hb, hml, hown, hts⟩ (met_X2_canGiveUp l dC dI cI cW q f) (cwV 0 hts gX1_givenBack_X2_canGiveUp rfl rfl rfl (by decide +kernel) ⟨Nat.le_of_ble_eq_true rfl, Nat.le_of_ble_eq_true rfl⟩) hKK (ws_right hP) 2 0 rfl rfl rfl hl.1 (Nat.le_of_ble_eq_true rfl) rfl dX1_givenBack_1 ⟨Nat.zero_le _, Nat.zero_le _⟩) (fun r_1 hr_1 => ?_)
  subst hr_1
  refine lv_if_ne (tgt := 9) hx hb dX1_givenBack_4 (by decide) (fun c_2 => ?_) (fun c_2 => ?_)
  · have bc_2 : f 4 = 0 ∧ 2 ≤ f 3 := b1.mp c_2
    refine lv_aload_n hx hb dX1_givenBack_9 rfl (lv_at hl 0 rfl) ?_
    refine lv_aload_n hx hb dX1_givenBack_10 rfl (lv_at hl 1 rfl) ?_
    refine rd_i (runV0 (As := [.ref q]) (rest := []) ⟨hx, hb, hml, hown, hts⟩ (met_X1_keptNow l dC dI cI cW X d r q f hok hi hi0) (cwV 1 hts gX1_givenBack_X1_keptNow rfl rfl rfl (by decide +kernel) ⟨Nat.le_of_ble_eq_true rfl, Nat.le_of_ble_eq_true rfl⟩) hKK hP 1 0 rfl rfl rfl hl.1 (Nat.le_of_ble_eq_true rfl) rfl dX1_givenBack_11 ⟨Nat.zero_le _, Nat.zero_le _⟩) (fun r_3 hr_3 => ?_)
    subst hr_3
    refine lv_istore_n (lv' := [(2, .int (keptS d (r 0) f)), (0, .ref (X 1)), (1, .ref q)]) hx hb dX1_givenBack_14 rfl hl (by decide) rfl (fun ls hl => ?_)
    refine lv_iload_n hx hb dX1_givenBack_15 rfl (lv_at hl 0 rfl) ?_
    refine lv_iload_n hx hb dX1_givenBack_16 rfl (lv_at hl 0 rfl) ?_
    refine lv_aload_n hx hb dX1_givenBack_17 rfl (lv_at hl 1 rfl) ?_
    refine va_get (D := (dC, dI)) (ci := 1) (v := .ref (X 3)) (C := RX1) (T := TX1) (N := 2) hx hb hts (by decide +kernel) hown hKK.1 hP 0 rfl rfl 1 (by decide) (hts (.fieldLink RX1 15 "WidowPennies$Tables" "rates" "[I") (by decide +kernel)) (fun _ h9 => h9) rfl dX1_givenBack_18 ?_
    refine lv_iconst (v := 2) hx hb dX1_givenBack_21 (by decide) ?_
    refine va_iald hx hb hKK.1 hP 2 0 rfl rfl (vp_in_nI (n := 2) (by omega) (by omega)) dX1_givenBack_22 ?_
    rw [show r (2 : Int32).toNatClampNeg = r 2 from rfl]
    refine lv_imul hx hb dX1_givenBack_23 ?_
    refine lv_bipush (v := 100) hx hb dX1_givenBack_24 (by decide) ?_
    refine lv_idiv hx hb dX1_givenBack_26 (by decide) ?_
    refine lv_isub hx hb dX1_givenBack_27 ?_
    have hz : (keptS d (r 0) f) - (((keptS d (r 0) f) * (r 2)) / 100) = backS d r f := by rw [backS, if_pos bc_2]
    exact W.iret (v := ((keptS d (r 0) f) - (((keptS d (r 0) f) * (r 2)) / 100))) hx hb hr (fun t ht hW => ⟨_, rfl, hz, ht⟩) (fun q hq => absurd hq List.not_mem_nil) dX1_givenBack_28
  · have bc_2 : ¬ (f 4 = 0 ∧ 2 ≤ f 3) := b0.mp c_2
    refine lv_iconst (v := 0) hx hb dX1_givenBack_7 (by decide) ?_
    have hz : 0 = backS d r f := by rw [backS, if_neg bc_2]
    exact W.iret (v := 0) hx hb hr (fun t ht hW => ⟨_, rfl, hz, ht⟩) (fun q hq => absurd hq List.not_mem_nil) dX1_givenBack_8
set_option maxHeartbeats 4000000 in
set_option maxRecDepth 100000 in
theorem met_X1_tellOf (l : Launch) (dC : Nat → ClassId) (dI : Nat → Nat → Nat) (cI cW : ClassId) (X : Nat → Nat) (d r : Nat → Int32) (q : Nat) (f : Nat → Int32) (hok : okW f) (hi : ¬ (1000 : Int32) + r 0 = 0) (hi0 : ¬ r 0 < 0) (k : Nat) (hk : k < 9) : Met l yX1_tellOf wsX1_tellOf ({ frames := 6, cells := 0, slots := 0, locals := 133 }) (Pre0 dC dI cI cW [.ref (X 1), .ref q, .int (nI k)] (tab cI X d r ++ [(q, .inr (2, row f))])) (vp_Si (fun z => z = tellS d r f k)) 0 0 (fun _ => False) := by
  refine Met.ofW (cc := cX1_tellOf) (maxL := 3) (ret := (some .int)) (by decide) rfl ?_
  intro p e s m args below meth c s₁ B hml hv
  obtain ⟨rfl, hP, hKK⟩ := hv
  have hx := B.exec
  have hb := B.bytes
  have hr := B.returns
  have hts := atoms_spec (ws := wsX1_tellOf) B.pre
  have hown : s.vm.findClass RX1 = some m.cls := findClass_of_methodNamed B.named
  have hlocks := B.notSynchronized
  have hl := lv_entry ([.ref (X 1), .ref q, .int (nI k)]) (n := 3) (Nat.le_of_ble_eq_true rfl)
  rw [lg_entry_eq]
  generalize (lg_sl ([.ref (X 1), .ref q, .int (nI k)]) ++ List.replicate (3 - (lg_sl ([.ref (X 1), .ref q, .int (nI k)])).length) Slot.unset).toArray = ls at hl ⊢
  have hl : lv_has ls 3 [(0, .ref (X 1)), (1, .ref q), (2, .int (nI k))] := hl
  rcases (show k = 0 ∨ k = 1 ∨ k = 2 ∨ k = 3 ∨ k = 4 ∨ k = 5 ∨ k = 6 ∨ k = 7 ∨ k = 8 by omega) with rfl | rfl | rfl | rfl | rfl | rfl | rfl | rfl | rfl
  · refine lv_iload_n hx hb dX1_tellOf_0 rfl (lv_at hl 2 rfl) ?_
    refine lv_tableIn (tgt := 48) (off := 47) hx hb dX1_tellOf_1 (by decide) (by decide) rfl (by decide) ?_
    refine lv_aload_n hx hb dX1_tellOf_48 rfl (lv_at hl 1 rfl) ?_
    refine va_get (D := (dC, dI)) (ci := 2) (v := .int (f 0)) (C := RX2) (T := TX2) (N := 7) hx hb hts (by decide +kernel) hown hKK.1 hP 3 rfl rfl 0 (by decide) (hts (.fieldLink RX1 48 "WidowPennies$Widow" "age" "I") (by decide +kernel)) (fun _ h9 => h9) rfl dX1_tellOf_49 ?_
    have hz : f 0 = tellS d r f 0 := rfl
    exact W.iret (v := (f 0)) hx hb hr (fun t ht hW => ⟨_, rfl, hz, ht⟩) (fun q hq => absurd hq List.not_mem_nil) dX1_tellOf_52
  · refine lv_iload_n hx hb dX1_tellOf_0 rfl (lv_at hl 2 rfl) ?_
    refine lv_tableIn (tgt := 53) (off := 52) hx hb dX1_tellOf_1 (by decide) (by decide) rfl (by decide) ?_
    refine lv_aload_n hx hb dX1_tellOf_53 rfl (lv_at hl 1 rfl) ?_
    refine va_get (D := (dC, dI)) (ci := 2) (v := .int (f 1)) (C := RX2) (T := TX2) (N := 7) hx hb hts (by decide +kernel) hown hKK.1 hP 3 rfl rfl 1 (by decide) (hts (.fieldLink RX1 44 "WidowPennies$Widow" "sum" "I") (by decide +kernel)) (fun _ h9 => h9) rfl dX1_tellOf_54 ?_
    have hz : f 1 = tellS d r f 1 := rfl
    exact W.iret (v := (f 1)) hx hb hr (fun t ht hW => ⟨_, rfl, hz, ht⟩) (fun q hq => absurd hq List.not_mem_nil) dX1_tellOf_57
  · refine lv_iload_n hx hb dX1_tellOf_0 rfl (lv_at hl 2 rfl) ?_
    refine lv_tableIn (tgt := 58) (off := 57) hx hb dX1_tellOf_1 (by decide) (by decide) rfl (by decide) ?_
    refine lv_aload_n hx hb dX1_tellOf_58 rfl (lv_at hl 1 rfl) ?_
    refine va_get (D := (dC, dI)) (ci := 2) (v := .int (f 2)) (C := RX2) (T := TX2) (N := 7) hx hb hts (by decide +kernel) hown hKK.1 hP 3 rfl rfl 2 (by decide) (hts (.fieldLink RX1 51 "WidowPennies$Widow" "wait" "I") (by decide +kernel)) (fun _ h9 => h9) rfl dX1_tellOf_59 ?_
    have hz : f 2 = tellS d r f 2 := rfl
    exact W.iret (v := (f 2)) hx hb hr (fun t ht hW => ⟨_, rfl, hz, ht⟩) (fun q hq => absurd hq List.not_mem_nil) dX1_tellOf_62
  · refine lv_iload_n hx hb dX1_tellOf_0 rfl (lv_at hl 2 rfl) ?_
    refine lv_tableIn (tgt := 63) (off := 62) hx hb dX1_tellOf_1 (by decide) (by decide) rfl (by decide) ?_
    refine lv_aload_n hx hb dX1_tellOf_63 rfl (lv_at hl 1 rfl) ?_
    refine va_get (D := (dC, dI)) (ci := 2) (v := .int (f 3)) (C := RX2) (T := TX2) (N := 7) hx hb hts (by decide +kernel) hown hKK.1 hP 3 rfl rfl 3 (by decide) (hts (.fieldLink RX1 61 "WidowPennies$Widow" "held" "I") (by decide +kernel)) (fun _ h9 => h9) rfl dX1_tellOf_64 ?_
    have hz : f 3 = tellS d r f 3 := rfl
    exact W.iret (v := (f 3)) hx hb hr (fun t ht hW => ⟨_, rfl, hz, ht⟩) (fun q hq => absurd hq List.not_mem_nil) dX1_tellOf_67
  · refine lv_iload_n hx hb dX1_tellOf_0 rfl (lv_at hl 2 rfl) ?_
    refine lv_tableIn (tgt := 68) (off := 67) hx hb dX1_tellOf_1 (by decide) (by decide) rfl (by decide) ?_
    refine lv_aload_n hx hb dX1_tellOf_68 rfl (lv_at hl 1 rfl) ?_
    refine va_get (D := (dC, dI)) (ci := 2) (v := .int (f 4)) (C := RX2) (T := TX2) (N := 7) hx hb hts (by decide +kernel) hown hKK.1 hP 3 rfl rfl 4 (by decide) (hts (.fieldLink RX1 64 "WidowPennies$Widow" "state" "I") (by decide +kernel)) (fun _ h9 => h9) rfl dX1_tellOf_69 ?_
    have hz : f 4 = tellS d r f 4 := rfl
    exact W.iret (v := (f 4)) hx hb hr (fun t ht hW => ⟨_, rfl, hz, ht⟩) (fun q hq => absurd hq List.not_mem_nil) dX1_tellOf_72
  · refine lv_iload_n hx hb dX1_tellOf_0 rfl (lv_at hl 2 rfl) ?_
    refine lv_tableIn (tgt := 73) (off := 72) hx hb dX1_tellOf_1 (by decide) (by decide) rfl (by decide) ?_
    refine lv_aload_n hx hb dX1_tellOf_73 rfl (lv_at hl 0 rfl) ?_
    refine lv_aload_n hx hb dX1_tellOf_74 rfl (lv_at hl 1 rfl) ?_
    refine rd_i (runV0 (As := [.ref q]) (rest := []) ⟨hx, hb, hml, hown, hts⟩ (met_X1_keptNow l dC dI cI cW X d r q f hok hi hi0) (cwV 1 hts gX1_tellOf_X1_keptNow rfl rfl rfl (by decide +kernel) ⟨Nat.le_of_ble_eq_true rfl, Nat.le_of_ble_eq_true rfl⟩) hKK hP 1 0 rfl rfl rfl hl.1 (Nat.le_of_ble_eq_true rfl) rfl dX1_tellOf_75 ⟨Nat.zero_le _, Nat.zero_le _⟩) (fun r_1 hr_1 => ?_)
    subst hr_1
    have hz : keptS d (r 0) f = tellS d r f 5 := rfl
    exact W.iret (v := (keptS d (r 0) f)) hx hb hr (fun t ht hW => ⟨_, rfl, hz, ht⟩) (fun q hq => absurd hq List.not_mem_nil) dX1_tellOf_78
  · refine lv_iload_n hx hb dX1_tellOf_0 rfl (lv_at hl 2 rfl) ?_
    refine lv_tableIn (tgt := 79) (off := 78) hx hb dX1_tellOf_1 (by decide) (by decide) rfl (by decide) ?_
    refine lv_aload_n hx hb dX1_tellOf_79 rfl (lv_at hl 1 rfl) ?_
    refine va_get (D := (dC, dI)) (ci := 2) (v := .int (f 5)) (C := RX2) (T := TX2) (N := 7) hx hb hts (by decide +kernel) hown hKK.1 hP 3 rfl rfl 5 (by decide) (hts (.fieldLink RX1 67 "WidowPennies$Widow" "got" "I") (by decide +kernel)) (fun _ h9 => h9) rfl dX1_tellOf_80 ?_
    have hz : f 5 = tellS d r f 6 := rfl
    exact W.iret (v := (f 5)) hx hb hr (fun t ht hW => ⟨_, rfl, hz, ht⟩) (fun q hq => absurd hq List.not_mem_nil) dX1_tellOf_83
  · refine lv_iload_n hx hb dX1_tellOf_0 rfl (lv_at hl 2 rfl) ?_
    refine lv_tableIn (tgt := 84) (off := 83) hx hb dX1_tellOf_1 (by decide) (by decide) rfl (by decide) ?_
    refine lv_aload_n hx hb dX1_tellOf_84 rfl (lv_at hl 1 rfl) ?_
    refine va_get (D := (dC, dI)) (ci := 2) (v := .int (f 6)) (C := RX2) (T := TX2) (N := 7) hx hb hts (by decide +kernel) hown hKK.1 hP 3 rfl rfl 6 (by decide) (hts (.fieldLink RX1 70 "WidowPennies$Widow" "cost" "I") (by decide +kernel)) (fun _ h9 => h9) rfl dX1_tellOf_85 ?_
    have hz : f 6 = tellS d r f 7 := rfl
    exact W.iret (v := (f 6)) hx hb hr (fun t ht hW => ⟨_, rfl, hz, ht⟩) (fun q hq => absurd hq List.not_mem_nil) dX1_tellOf_88
  · refine lv_iload_n hx hb dX1_tellOf_0 rfl (lv_at hl 2 rfl) ?_
    refine lv_tableOut (tgt := 89) hx hb dX1_tellOf_1 (by decide) (by decide) ?_
    refine lv_aload_n hx hb dX1_tellOf_89 rfl (lv_at hl 0 rfl) ?_
    refine lv_aload_n hx hb dX1_tellOf_90 rfl (lv_at hl 1 rfl) ?_
    refine rd_i (runV0 (As := [.ref q]) (rest := []) ⟨hx, hb, hml, hown, hts⟩ (met_X1_givenBack l dC dI cI cW X d r q f hok hi hi0) (cwV 1 hts gX1_tellOf_X1_givenBack rfl rfl rfl (by decide +kernel) ⟨Nat.le_of_ble_eq_true rfl, Nat.le_of_ble_eq_true rfl⟩) hKK hP 1 0 rfl rfl rfl hl.1 (Nat.le_of_ble_eq_true rfl) rfl dX1_tellOf_91 ⟨Nat.zero_le _, Nat.zero_le _⟩) (fun r_1 hr_1 => ?_)
    subst hr_1
    have hz : backS d r f = tellS d r f 8 := rfl
    exact W.iret (v := (backS d r f)) hx hb hr (fun t ht hW => ⟨_, rfl, hz, ht⟩) (fun q hq => absurd hq List.not_mem_nil) dX1_tellOf_94
set_option maxHeartbeats 4000000 in
set_option maxRecDepth 100000 in
theorem met_X1_leftOfThousand (l : Launch) (dC : Nat → ClassId) (dI : Nat → Nat → Nat) (cI cW : ClassId) (X : Nat → Nat) (d r : Nat → Int32) (ka y : Nat) (h1 : 50 ≤ ka) (h2 : ka ≤ 99) (h3 : y ≤ 60) : Met l yX1_leftOfThousand wsX1_leftOfThousand ({ frames := 2, cells := 0, slots := 0, locals := 41 }) (Pre0 dC dI cI cW [.ref (X 1), .int (nI ka), .int (nI y)] (tab cI X d r)) (vp_Si (fun z => z = (if 99 < ka + y then 0 else aliveS d (ka - 50) y))) 0 0 (fun _ => False) := by
  refine Met.ofW (cc := cX1_leftOfThousand) (maxL := 5) (ret := (some .int)) (by decide) rfl ?_
  intro p e s m args below meth c s₁ B hml hv
  obtain ⟨rfl, hP, hKK⟩ := hv
  have hx := B.exec
  have hb := B.bytes
  have hr := B.returns
  have hts := atoms_spec (ws := wsX1_leftOfThousand) B.pre
  have hown : s.vm.findClass RX1 = some m.cls := findClass_of_methodNamed B.named
  have hlocks := B.notSynchronized
  have hl := lv_entry ([.ref (X 1), .int (nI ka), .int (nI y)]) (n := 5) (Nat.le_of_ble_eq_true rfl)
  rw [lg_entry_eq]
  generalize (lg_sl ([.ref (X 1), .int (nI ka), .int (nI y)]) ++ List.replicate (5 - (lg_sl ([.ref (X 1), .int (nI ka), .int (nI y)])).length) Slot.unset).toArray = ls at hl ⊢
  have hl : lv_has ls 5 [(0, .ref (X 1)), (1, .int (nI ka)), (2, .int (nI y))] := hl
  have key : ka + y ≤ 99 → ∀ (n j : Nat), j + n = y → ∀ ls : Array Slot, lv_has ls 5 [(4, .int (nI (ka + j))), (3, .int (aliveS d (ka - 50) j)), (0, .ref (X 1)), (1, .int (nI ka)), (2, .int (nI y))] → W p l e (headSpec wsX1_leftOfThousand ({ frames := 2, cells := 0, slots := 0, locals := 41 })).room s m (([.ref (X 1), .int (nI ka), .int (nI y)] : List Value).toArray) below meth c s.heap [] 0 0 (MQ below (vp_Si (fun z => z = (if 99 < ka + y then 0 else aliveS d (ka - 50) y))) ([.ref (X 1), .int (nI ka), .int (nI y)] : List Value).toArray s 0 0 (fun _ => False)) (F0 m 17 ls []) := by
    intro hle n
    induction n with
    | zero =>
      intro j hj ls hl
      refine lv_iload hx hb dX1_leftOfThousand_17 (lv_at hl 0 rfl) ?_
      refine lv_iload_n hx hb dX1_leftOfThousand_19 rfl (lv_at hl 3 rfl) ?_
      refine lv_iload_n hx hb dX1_leftOfThousand_20 rfl (lv_at hl 4 rfl) ?_
      refine lv_iadd hx hb dX1_leftOfThousand_21 ?_
      rw [show ((nI ka) + (nI y) : Int32) = nI (ka + y) from nI_add _ _]
      refine lv_icmp_ge (tgt := 48) hx hb dX1_leftOfThousand_22 (by decide) (fun c_2 => ?_) (fun c_2 => ?_)
      · refine lv_iload_n hx hb dX1_leftOfThousand_48 rfl (lv_at hl 1 rfl) ?_
        have hz : aliveS d (ka - 50) j = (if 99 < ka + y then 0 else aliveS d (ka - 50) y) := by rw [if_neg (by omega), show j = y by omega]
        exact W.iret (v := (aliveS d (ka - 50) j)) hx hb hr (fun t ht hW => ⟨_, rfl, hz, ht⟩) (fun q hq => absurd hq List.not_mem_nil) dX1_leftOfThousand_49
      · exact absurd ((le_nI (by omega)).mpr (by omega)) c_2
    | succ n ih =>
      intro j hj ls hl
      refine lv_iload hx hb dX1_leftOfThousand_17 (lv_at hl 0 rfl) ?_
      refine lv_iload_n hx hb dX1_leftOfThousand_19 rfl (lv_at hl 3 rfl) ?_
      refine lv_iload_n hx hb dX1_leftOfThousand_20 rfl (lv_at hl 4 rfl) ?_
      refine lv_iadd hx hb dX1_leftOfThousand_21 ?_
      rw [show ((nI ka) + (nI y) : Int32) = nI (ka + y) from nI_add _ _]
      refine lv_icmp_ge (tgt := 48) hx hb dX1_leftOfThousand_22 (by decide) (fun c_2 => ?_) (fun c_2 => ?_)
      · exact absurd c_2 (fun q => absurd ((le_nI (by omega)).mp q) (by omega))
      · refine lv_iload_n hx hb dX1_leftOfThousand_25 rfl (lv_at hl 1 rfl) ?_
        refine lv_sipush (v := 1000) hx hb dX1_leftOfThousand_26 (by decide) ?_
        refine lv_aload_n hx hb dX1_leftOfThousand_29 rfl (lv_at hl 2 rfl) ?_
        refine lv_iload hx hb dX1_leftOfThousand_30 (lv_at hl 0 rfl) ?_
        refine rd_i (runV0 (As := [.int (nI (ka + j))]) (rest := [.int 1000, .int (aliveS d (ka - 50) j)]) ⟨hx, hb, hml, hown, hts⟩ (met_X1_deathsAt l dC dI cI cW X d r (nI (ka + j))) (cwV 1 hts gX1_leftOfThousand_X1_deathsAt rfl rfl rfl (by decide +kernel) ⟨Nat.le_of_ble_eq_true rfl, Nat.le_of_ble_eq_true rfl⟩) hKK hP 1 0 rfl rfl rfl hl.1 (Nat.le_of_ble_eq_true rfl) rfl dX1_leftOfThousand_32 ⟨Nat.zero_le _, Nat.zero_le _⟩) (fun r_3 hr_3 => ?_)
        subst hr_3
        refine lv_isub hx hb dX1_leftOfThousand_35 ?_
        refine lv_imul hx hb dX1_leftOfThousand_36 ?_
        refine lv_sipush (v := 1000) hx hb dX1_leftOfThousand_37 (by decide) ?_
        refine lv_idiv hx hb dX1_leftOfThousand_40 (by decide) ?_
        rw [show (((aliveS d (ka - 50) j) * (1000 - (dAt d (nI (ka + j))))) / 1000 : Int32) = aliveS d (ka - 50) (j + 1) from by rw [dAt_nI d (by omega) (by omega), aliveS, show ka + j - 50 = ka - 50 + j by omega]]
        refine lv_istore_n (lv' := [(3, .int (aliveS d (ka - 50) (j + 1))), (4, .int (nI (ka + j))), (0, .ref (X 1)), (1, .int (nI ka)), (2, .int (nI y))]) hx hb dX1_leftOfThousand_41 rfl hl (by decide) rfl (fun ls hl => ?_)
        refine lv_iinc (v := (nI (ka + (j + 1)))) (lv' := [(4, .int (nI (ka + (j + 1)))), (3, .int (aliveS d (ka - 50) (j + 1))), (0, .ref (X 1)), (1, .int (nI ka)), (2, .int (nI y))]) hx hb dX1_leftOfThousand_42 hl (k := 1) rfl (nI_1 (ka + j)) (by decide) rfl (fun ls hl => ?_)
        refine lv_goto (tgt := 17) hx hb dX1_leftOfThousand_45 (by decide) ?_
        exact ih (j + 1) (by omega) ls (lv_sub hl [0, 1, 2, 3, 4] rfl)
  refine lv_iload_n hx hb dX1_leftOfThousand_0 rfl (lv_at hl 1 rfl) ?_
  refine lv_iload_n hx hb dX1_leftOfThousand_1 rfl (lv_at hl 2 rfl) ?_
  refine lv_iadd hx hb dX1_leftOfThousand_2 ?_
  rw [show ((nI ka) + (nI y) : Int32) = nI (ka + y) from nI_add _ _]
  refine lv_bipush (v := 99) hx hb dX1_leftOfThousand_3 (by decide) ?_
  refine lv_icmp_le (tgt := 10) hx hb dX1_leftOfThousand_5 (by decide) (fun c_2 => ?_) (fun c_2 => ?_)
  · have hle : ka + y ≤ 99 := (le_nI (b := 99) (by omega)).mp c_2
    refine lv_sipush (v := 1000) hx hb dX1_leftOfThousand_10 (by decide) ?_
    refine lv_istore_n (lv' := [(3, .int 1000), (0, .ref (X 1)), (1, .int (nI ka)), (2, .int (nI y))]) hx hb dX1_leftOfThousand_13 rfl hl (by decide) rfl (fun ls hl => ?_)
    refine lv_iload_n hx hb dX1_leftOfThousand_14 rfl (lv_at hl 2 rfl) ?_
    refine lv_istore (lv' := [(4, .int (nI ka)), (3, .int 1000), (0, .ref (X 1)), (1, .int (nI ka)), (2, .int (nI y))]) hx hb dX1_leftOfThousand_15 hl (by decide) rfl (fun ls hl => ?_)
    exact key hle y 0 (by omega) ls (lv_sub hl [0, 1, 2, 3, 4] rfl)
  · refine lv_iconst (v := 0) hx hb dX1_leftOfThousand_8 (by decide) ?_
    have hz : 0 = (if 99 < ka + y then 0 else aliveS d (ka - 50) y) := by rw [if_pos (Nat.not_le.mp (fun q => c_2 ((le_nI (b := 99) (by omega)).mpr q)))]
    exact W.iret (v := 0) hx hb hr (fun t ht hW => ⟨_, rfl, hz, ht⟩) (fun q hq => absurd hq List.not_mem_nil) dX1_leftOfThousand_9
set_option maxHeartbeats 4000000 in
set_option maxRecDepth 100000 in
theorem met_X1_greatestSum (l : Launch) (dC : Nat → ClassId) (dI : Nat → Nat → Nat) (cI cW : ClassId) (X : Nat → Nat) (d r : Nat → Int32) (x money : Int32) (hm : ∀ k : Nat, k < 999 → priceS (r 1) (nI (k + 1)) x ≤ money → priceS (r 1) (nI k) x ≤ money) : Met l yX1_greatestSum wsX1_greatestSum ({ frames := 1, cells := 0, slots := 0, locals := 24 }) (Pre0 dC dI cI cW [.ref (X 1), .int x, .int money] (tab cI X d r)) (vp_Si (fun z => z = nI (gS (r 1) x money))) 0 0 (fun _ => False) := by
  refine Met.ofW (cc := cX1_greatestSum) (maxL := 6) (ret := (some .int)) (by decide) rfl ?_
  intro p e s m args below meth c s₁ B hml hv
  obtain ⟨rfl, hP, hKK⟩ := hv
  have hx := B.exec
  have hb := B.bytes
  have hr := B.returns
  have hts := atoms_spec (ws := wsX1_greatestSum) B.pre
  have hown : s.vm.findClass RX1 = some m.cls := findClass_of_methodNamed B.named
  have hlocks := B.notSynchronized
  have hl := lv_entry ([.ref (X 1), .int x, .int money]) (n := 6) (Nat.le_of_ble_eq_true rfl)
  rw [lg_entry_eq]
  generalize (lg_sl ([.ref (X 1), .int x, .int money]) ++ List.replicate (6 - (lg_sl ([.ref (X 1), .int x, .int money])).length) Slot.unset).toArray = ls at hl ⊢
  have hl : lv_has ls 6 [(0, .ref (X 1)), (1, .int x), (2, .int money)] := hl
  have hG : gS (r 1) x money ≤ 999 := dnS_le _ _
  have key : ∀ (n g : Nat), n ≤ 10 → g ≤ gS (r 1) x money → gS (r 1) x money < g + 2 ^ n → ∀ ls : Array Slot, lv_has ls 6 [(4, .int (nI (2 ^ n / 2))), (3, .int (nI g)), (0, .ref (X 1)), (1, .int x), (2, .int money)] → W p l e (headSpec wsX1_greatestSum ({ frames := 1, cells := 0, slots := 0, locals := 24 })).room s m (([.ref (X 1), .int x, .int money] : List Value).toArray) below meth c s.heap [] 0 0 (MQ below (vp_Si (fun z => z = nI (gS (r 1) x money))) ([.ref (X 1), .int x, .int money] : List Value).toArray s 0 0 (fun _ => False)) (F0 m 7 ls []) := by
    intro n
    induction n with
    | zero =>
      intro g hn h1 h2 ls hl
      refine lv_iload hx hb dX1_greatestSum_7 (lv_at hl 0 rfl) ?_
      refine lv_if_le (tgt := 49) hx hb dX1_greatestSum_9 (by decide) (fun c_1 => ?_) (fun c_1 => ?_)
      · refine lv_iload_n hx hb dX1_greatestSum_49 rfl (lv_at hl 1 rfl) ?_
        have hz : nI g = nI (gS (r 1) x money) := by rw [show g = gS (r 1) x money by rw [Nat.pow_zero] at h2; omega]
        exact W.iret (v := (nI g)) hx hb hr (fun t ht hW => ⟨_, rfl, hz, ht⟩) (fun q hq => absurd hq List.not_mem_nil) dX1_greatestSum_50
      · exact absurd (by decide) c_1
    | succ n ih =>
      intro g hn h1 h2 ls hl
      have hp : 2 ^ n ≤ 512 := Nat.le_trans (Nat.pow_le_pow_right (by omega) (show n ≤ 9 by omega)) (by decide)
      have hp0 : 0 < 2 ^ n := Nat.pow_pos (by omega)
      have hp2 : 2 ^ (n + 1) / 2 = 2 ^ n := by rw [Nat.pow_succ]; omega
      have hp3 : 2 ^ (n + 1) = 2 ^ n + 2 ^ n := by rw [Nat.pow_succ]; omega
      rw [hp2] at hl
      rw [hp3] at h2
      refine lv_iload hx hb dX1_greatestSum_7 (lv_at hl 0 rfl) ?_
      refine lv_if_le (tgt := 49) hx hb dX1_greatestSum_9 (by decide) (fun c_1 => ?_) (fun c_1 => ?_)
      · exact absurd c_1 (nI_nle hp0 (by omega))
      · refine lv_iload_n hx hb dX1_greatestSum_12 rfl (lv_at hl 1 rfl) ?_
        refine lv_iload hx hb dX1_greatestSum_13 (lv_at hl 0 rfl) ?_
        refine lv_iadd hx hb dX1_greatestSum_15 ?_
        rw [show ((nI g) + (nI (2 ^ n)) : Int32) = nI (g + 2 ^ n) from nI_add _ _]
        refine lv_istore (lv' := [(5, .int (nI (g + 2 ^ n))), (4, .int (nI (2 ^ n))), (3, .int (nI g)), (0, .ref (X 1)), (1, .int x), (2, .int money)]) hx hb dX1_greatestSum_16 hl (by decide) rfl (fun ls hl => ?_)
        refine lv_iload hx hb dX1_greatestSum_18 (lv_at hl 0 rfl) ?_
        refine lv_sipush (v := 999) hx hb dX1_greatestSum_20 (by decide) ?_
        refine lv_icmp_gt (tgt := 40) hx hb dX1_greatestSum_23 (by decide) (fun c_3 => ?_) (fun c_3 => ?_)
        · have hgt : gS (r 1) x money < g + 2 ^ n := Nat.lt_of_le_of_lt hG ((lt_nI (a := 999) (by omega)).mp c_3)
          refine lv_iload hx hb dX1_greatestSum_40 (lv_at hl 1 rfl) ?_
          refine lv_iconst (v := 2) hx hb dX1_greatestSum_42 (by decide) ?_
          refine lv_idiv hx hb dX1_greatestSum_43 (by decide) ?_
          rw [show ((nI (2 ^ n)) / 2 : Int32) = nI (2 ^ n / 2) from pk_div (d := 2) (by omega) (by omega) (by omega)]
          refine lv_istore (lv' := [(4, .int (nI (2 ^ n / 2))), (5, .int (nI (g + 2 ^ n))), (3, .int (nI g)), (0, .ref (X 1)), (1, .int x), (2, .int money)]) hx hb dX1_greatestSum_44 hl (by decide) rfl (fun ls hl => ?_)
          refine lv_goto (tgt := 7) hx hb dX1_greatestSum_46 (by decide) ?_
          exact ih g (by omega) h1 (by omega) ls (lv_sub hl [0, 2, 3, 4, 5] rfl)
        · have hle9 : g + 2 ^ n ≤ 999 := Nat.not_lt.mp (fun q => c_3 ((lt_nI (a := 999) (by omega)).mpr q))
          refine lv_aload_n hx hb dX1_greatestSum_26 rfl (lv_at hl 3 rfl) ?_
          refine lv_iload hx hb dX1_greatestSum_27 (lv_at hl 0 rfl) ?_
          refine lv_iload_n hx hb dX1_greatestSum_29 rfl (lv_at hl 4 rfl) ?_
          refine rd_i (runV0 (As := [.int (nI (g + 2 ^ n)), .int x]) (rest := []) ⟨hx, hb, hml, hown, hts⟩ (met_X1_priceOf l dC dI cI cW X d r (nI (g + 2 ^ n)) x) (cwV 2 hts gX1_greatestSum_X1_priceOf rfl rfl rfl (by decide +kernel) ⟨Nat.le_of_ble_eq_true rfl, Nat.le_of_ble_eq_true rfl⟩) hKK hP 1 0 rfl rfl rfl hl.1 (Nat.le_of_ble_eq_true rfl) rfl dX1_greatestSum_30 ⟨Nat.zero_le _, Nat.zero_le _⟩) (fun r_5 hr_5 => ?_)
          subst hr_5
          refine lv_iload_n hx hb dX1_greatestSum_33 rfl (lv_at hl 5 rfl) ?_
          refine lv_icmp_gt (tgt := 40) hx hb dX1_greatestSum_34 (by decide) (fun c_6 => ?_) (fun c_6 => ?_)
          · have hgt : gS (r 1) x money < g + 2 ^ n := gS_lt hm (by omega) hle9 (Int32.not_le.mpr c_6)
            refine lv_iload hx hb dX1_greatestSum_40 (lv_at hl 1 rfl) ?_
            refine lv_iconst (v := 2) hx hb dX1_greatestSum_42 (by decide) ?_
            refine lv_idiv hx hb dX1_greatestSum_43 (by decide) ?_
            rw [show ((nI (2 ^ n)) / 2 : Int32) = nI (2 ^ n / 2) from pk_div (d := 2) (by omega) (by omega) (by omega)]
            refine lv_istore (lv' := [(4, .int (nI (2 ^ n / 2))), (5, .int (nI (g + 2 ^ n))), (3, .int (nI g)), (0, .ref (X 1)), (1, .int x), (2, .int money)]) hx hb dX1_greatestSum_44 hl (by decide) rfl (fun ls hl => ?_)
            refine lv_goto (tgt := 7) hx hb dX1_greatestSum_46 (by decide) ?_
            exact ih g (by omega) h1 (by omega) ls (lv_sub hl [0, 2, 3, 4, 5] rfl)
          · have hle : g + 2 ^ n ≤ gS (r 1) x money := gS_ge hle9 (Int32.not_lt.mp c_6)
            refine lv_iload hx hb dX1_greatestSum_37 (lv_at hl 0 rfl) ?_
            refine lv_istore_n (lv' := [(3, .int (nI (g + 2 ^ n))), (5, .int (nI (g + 2 ^ n))), (4, .int (nI (2 ^ n))), (0, .ref (X 1)), (1, .int x), (2, .int money)]) hx hb dX1_greatestSum_39 rfl hl (by decide) rfl (fun ls hl => ?_)
            refine lv_iload hx hb dX1_greatestSum_40 (lv_at hl 2 rfl) ?_
            refine lv_iconst (v := 2) hx hb dX1_greatestSum_42 (by decide) ?_
            refine lv_idiv hx hb dX1_greatestSum_43 (by decide) ?_
            rw [show ((nI (2 ^ n)) / 2 : Int32) = nI (2 ^ n / 2) from pk_div (d := 2) (by omega) (by omega) (by omega)]
            refine lv_istore (lv' := [(4, .int (nI (2 ^ n / 2))), (3, .int (nI (g + 2 ^ n))), (5, .int (nI (g + 2 ^ n))), (0, .ref (X 1)), (1, .int x), (2, .int money)]) hx hb dX1_greatestSum_44 hl (by decide) rfl (fun ls hl => ?_)
            refine lv_goto (tgt := 7) hx hb dX1_greatestSum_46 (by decide) ?_
            exact ih (g + 2 ^ n) (by omega) hle (by omega) ls (lv_sub hl [0, 1, 3, 4, 5] rfl)
  refine lv_iconst (v := 0) hx hb dX1_greatestSum_0 (by decide) ?_
  refine lv_istore_n (lv' := [(3, .int 0), (0, .ref (X 1)), (1, .int x), (2, .int money)]) hx hb dX1_greatestSum_1 rfl hl (by decide) rfl (fun ls hl => ?_)
  refine lv_sipush (v := 512) hx hb dX1_greatestSum_2 (by decide) ?_
  refine lv_istore (lv' := [(4, .int 512), (3, .int 0), (0, .ref (X 1)), (1, .int x), (2, .int money)]) hx hb dX1_greatestSum_5 hl (by decide) rfl (fun ls hl => ?_)
  exact key 10 0 (by omega) (Nat.zero_le _) (by omega) ls (lv_sub hl [0, 1, 2, 3, 4] rfl)
set_option maxHeartbeats 4000000 in
set_option maxRecDepth 100000 in
theorem met_X1_changeDeaths (l : Launch) (dC : Nat → ClassId) (dI : Nat → Nat → Nat) (cI cW : ClassId) (X : Nat → Nat) (d r : Nat → Int32) (R : va_W) (ka : Nat) (h1 : 50 ≤ ka) (h2 : ka ≤ 99) (x : Int32) (sz : Nat) : Met l yX1_changeDeaths wsX1_changeDeaths ({ frames := 1, cells := 0, slots := 0, locals := 20 }) (Pre1 dC dI cI cW [.ref (X 1), .int (nI ka), .int x] (tab cI X d r ++ R) sz) (Qv1 dC dI (tab cI X d r ++ R) (tab cI X (upd d (ka - 50) x) r ++ R) sz) 0 0 (va_A (tab cI X d r ++ R) sz) := by
  refine Met.ofW (cc := cX1_changeDeaths) (maxL := 3) (ret := none) (by decide) rfl ?_
  intro p e s m args below meth c s₁ B hml hv
  obtain ⟨rfl, hsz, hP, hD0, hKK⟩ := hv
  subst hsz
  have hx := B.exec
  have hb := B.bytes
  have hr := B.returns
  have hts := atoms_spec (ws := wsX1_changeDeaths) B.pre
  have hown : s.vm.findClass RX1 = some m.cls := findClass_of_methodNamed B.named
  have hlocks := B.notSynchronized
  have hD := hD0.self (sz := s.heap.size)
  generalize hAe : va_A (tab cI X d r ++ R) s.heap.size = A at hD ⊢
  have hA : ∀ q : Nat, s.heap.size ≤ q → A q := fun q h => by rw [← hAe]; exact Or.inr h
  have hS : va_S A s.heap s.heap [] := va_S.rf
  have hl := lv_entry ([.ref (X 1), .int (nI ka), .int x]) (n := 3) (Nat.le_of_ble_eq_true rfl)
  rw [lg_entry_eq]
  generalize (lg_sl ([.ref (X 1), .int (nI ka), .int x]) ++ List.replicate (3 - (lg_sl ([.ref (X 1), .int (nI ka), .int x])).length) Slot.unset).toArray = ls at hl ⊢
  have hl : lv_has ls 3 [(0, .ref (X 1)), (1, .int (nI ka)), (2, .int x)] := hl
  refine lv_iload_n hx hb dX1_changeDeaths_0 rfl (lv_at hl 1 rfl) ?_
  refine rd_i (runSN0 (As := [.int (nI ka)]) (rest := []) (host := RX3) ⟨hx, hb, hml, hown, hts⟩ (met_X3_isAge l dC dI cI cW (nI ka)) ⟨va_cnB 1 hts gX1_changeDeaths_X3_isAge_n18 rfl rfl rfl hKK.2.1 (hts (.initialized RX3) (by decide +kernel)) (by decide +kernel) ⟨Nat.le_of_ble_eq_true rfl, Nat.le_of_ble_eq_true rfl⟩, hts (.static yX3_isAge) (by decide +kernel), trivial⟩ hKK nilP rfl hl.1 (Nat.le_of_ble_eq_true rfl) rfl dX1_changeDeaths_1 ⟨Nat.zero_le _, Nat.zero_le _⟩) (fun r_1 hr_1 => ?_)
  subst hr_1
  refine lv_if_eq (tgt := 17) hx hb dX1_changeDeaths_4 (by decide) (fun c_2 => ?_) (fun c_2 => ?_)
  · have bc_2 : ¬ (50 ≤ (nI ka) ∧ (nI ka) ≤ 99) := b0.mp c_2
    exact absurd ⟨(le_nI (a := 50) (by omega)).mpr h1, (le_nI (b := 99) (by omega)).mpr h2⟩ bc_2
  · have bc_2 : 50 ≤ (nI ka) ∧ (nI ka) ≤ 99 := b1.mp c_2
    have hin : vp_in (nI ka - 50) 50 := in_age bc_2
    refine lv_aload_n hx hb dX1_changeDeaths_7 rfl (lv_at hl 0 rfl) ?_
    refine va_get (D := (dC, dI)) (ci := 1) (v := .ref (X 2)) (C := RX1) (T := TX1) (N := 2) hx hb hts (by decide +kernel) hown hKK.1 hP 0 rfl rfl 0 (by decide) (hts (.fieldLink RX1 9 "WidowPennies$Tables" "deaths" "[I") (by decide +kernel)) (fun _ h9 => h9) rfl dX1_changeDeaths_8 ?_
    refine lv_iload_n hx hb dX1_changeDeaths_11 rfl (lv_at hl 1 rfl) ?_
    refine lv_bipush (v := 50) hx hb dX1_changeDeaths_12 (by decide) ?_
    refine lv_isub hx hb dX1_changeDeaths_14 ?_
    refine lv_iload_n hx hb dX1_changeDeaths_15 rfl (lv_at hl 2 rfl) ?_
    refine va_iast hx hb hKK.1 hP hD hS 1 0 rfl rfl hin dX1_changeDeaths_16 (fun H locs hP hD hS => ?_)
    rw [show (nI ka - 50).toNatClampNeg = ka - 50 from by rw [show (50 : Int32) = nI 50 from rfl, n_sub h1, clamp_nI (by omega)]] at hP hD
    have hP9 : va_P (dC, dI) vwCl (tab cI X (upd d (ka - 50) x) r ++ R) _ := hP
    have hD9 : va_D A (tab cI X (upd d (ka - 50) x) r ++ R) := hD
    exact W.vret hx hb hr (fun t ht hW => ⟨⟨(), rfl, trivial, by rw [ht]; exact hP9, by rw [hAe]; exact hD9⟩, by rw [hAe]; exact hS.F ht⟩) hS.2.2 dX1_changeDeaths_17
set_option maxHeartbeats 4000000 in
set_option maxRecDepth 100000 in
theorem met_X1_changeRate (l : Launch) (dC : Nat → ClassId) (dI : Nat → Nat → Nat) (cI cW : ClassId) (X : Nat → Nat) (d r : Nat → Int32) (R : va_W) (k : Nat) (hk : k < 3) (x : Int32) (sz : Nat) : Met l yX1_changeRate wsX1_changeRate ({ frames := 0, cells := 0, slots := 0, locals := 0 }) (Pre1 dC dI cI cW [.ref (X 1), .int (nI k), .int x] (tab cI X d r ++ R) sz) (Qv1 dC dI (tab cI X d r ++ R) (tab cI X d (upd r k x) ++ R) sz) 0 0 (va_A (tab cI X d r ++ R) sz) := by
  refine Met.ofW (cc := cX1_changeRate) (maxL := 3) (ret := none) (by decide) rfl ?_
  intro p e s m args below meth c s₁ B hml hv
  obtain ⟨rfl, hsz, hP, hD0, hKK⟩ := hv
  subst hsz
  have hx := B.exec
  have hb := B.bytes
  have hr := B.returns
  have hts := atoms_spec (ws := wsX1_changeRate) B.pre
  have hown : s.vm.findClass RX1 = some m.cls := findClass_of_methodNamed B.named
  have hlocks := B.notSynchronized
  have hD := hD0.self (sz := s.heap.size)
  generalize hAe : va_A (tab cI X d r ++ R) s.heap.size = A at hD ⊢
  have hA : ∀ q : Nat, s.heap.size ≤ q → A q := fun q h => by rw [← hAe]; exact Or.inr h
  have hS : va_S A s.heap s.heap [] := va_S.rf
  have hl := lv_entry ([.ref (X 1), .int (nI k), .int x]) (n := 3) (Nat.le_of_ble_eq_true rfl)
  rw [lg_entry_eq]
  generalize (lg_sl ([.ref (X 1), .int (nI k), .int x]) ++ List.replicate (3 - (lg_sl ([.ref (X 1), .int (nI k), .int x])).length) Slot.unset).toArray = ls at hl ⊢
  have hl : lv_has ls 3 [(0, .ref (X 1)), (1, .int (nI k)), (2, .int x)] := hl
  refine lv_iload_n hx hb dX1_changeRate_0 rfl (lv_at hl 1 rfl) ?_
  refine lv_if_lt (tgt := 16) hx hb dX1_changeRate_1 (by decide) (fun c_1 => ?_) (fun c_1 => ?_)
  · exact absurd c_1 (nI_pos (by omega))
  · refine lv_iload_n hx hb dX1_changeRate_4 rfl (lv_at hl 1 rfl) ?_
    refine lv_iconst (v := 3) hx hb dX1_changeRate_5 (by decide) ?_
    refine lv_icmp_ge (tgt := 16) hx hb dX1_changeRate_6 (by decide) (fun c_2 => ?_) (fun c_2 => ?_)
    · exact absurd c_2 (nI_ge (b := 3) hk (by omega))
    · refine lv_aload_n hx hb dX1_changeRate_9 rfl (lv_at hl 0 rfl) ?_
      refine va_get (D := (dC, dI)) (ci := 1) (v := .ref (X 3)) (C := RX1) (T := TX1) (N := 2) hx hb hts (by decide +kernel) hown hKK.1 hP 0 rfl rfl 1 (by decide) (hts (.fieldLink RX1 15 "WidowPennies$Tables" "rates" "[I") (by decide +kernel)) (fun _ h9 => h9) rfl dX1_changeRate_10 ?_
      refine lv_iload_n hx hb dX1_changeRate_13 rfl (lv_at hl 1 rfl) ?_
      refine lv_iload_n hx hb dX1_changeRate_14 rfl (lv_at hl 2 rfl) ?_
      refine va_iast hx hb hKK.1 hP hD hS 2 0 rfl rfl (vp_in_nI hk (by omega)) dX1_changeRate_15 (fun H locs hP hD hS => ?_)
      rw [clamp_nI (show k < 2147483648 by omega)] at hP hD
      have hP9 : va_P (dC, dI) vwCl (tab cI X d (upd r k x) ++ R) _ := hP
      have hD9 : va_D A (tab cI X d (upd r k x) ++ R) := hD
      exact W.vret hx hb hr (fun t ht hW => ⟨⟨(), rfl, trivial, by rw [ht]; exact hP9, by rw [hAe]; exact hD9⟩, by rw [hAe]; exact hS.F ht⟩) hS.2.2 dX1_changeRate_16
end
section
set_option maxHeartbeats 4000000 in
set_option maxRecDepth 100000 in
theorem met_X0_isFull (l : Launch) (dC : Nat → ClassId) (dI : Nat → Nat → Nat) (cI cW : ClassId) (X Bk : Nat → Nat) (n : Nat) (ch pd pr yr : Int32) (Wd : Nat → Nat → Int32) (hn : n ≤ 10) : Met l yX0_isFull wsX0_isFull ({ frames := 0, cells := 0, slots := 0, locals := 0 }) (Pre0 dC dI cI cW [.ref (Bk 0)] (bk cW X Bk n ch pd pr yr Wd)) (vp_Si (fun z => z = (if n = 10 then (1 : Int32) else 0))) 0 0 (fun _ => False) := by
  refine Met.ofW (cc := cX0_isFull) (maxL := 1) (ret := (some .boolean)) (by decide) rfl ?_
  intro p e s m args below meth c s₁ B hml hv
  obtain ⟨rfl, hP, hKK⟩ := hv
  have hx := B.exec
  have hb := B.bytes
  have hr := B.returns
  have hts := atoms_spec (ws := wsX0_isFull) B.pre
  have hown : s.vm.findClass RX0 = some m.cls := findClass_of_methodNamed B.named
  have hlocks := B.notSynchronized
  have hl := lv_entry ([.ref (Bk 0)]) (n := 1) (Nat.le_of_ble_eq_true rfl)
  rw [lg_entry_eq]
  generalize (lg_sl ([.ref (Bk 0)]) ++ List.replicate (1 - (lg_sl ([.ref (Bk 0)])).length) Slot.unset).toArray = ls at hl ⊢
  have hl : lv_has ls 1 [(0, .ref (Bk 0))] := hl
  refine lv_aload_n hx hb dX0_isFull_0 rfl (lv_at hl 0 rfl) ?_
  refine va_get (D := (dC, dI)) (ci := 0) (v := .int (nI n)) (C := RX0) (T := TX0) (N := 7) hx hb hts (by decide +kernel) hown hKK.1 hP 0 rfl rfl 2 (by decide) (hts (.fieldLink RX0 22 "WidowPennies$Book" "written" "I") (by decide +kernel)) (fun _ h9 => h9) rfl dX0_isFull_1 ?_
  refine lv_bipush (v := 10) hx hb dX0_isFull_4 (by decide) ?_
  refine lv_icmp_lt (tgt := 13) hx hb dX0_isFull_6 (by decide) (fun c_1 => ?_) (fun c_1 => ?_)
  · refine lv_iconst (v := 0) hx hb dX0_isFull_13 (by decide) ?_
    have hz : 0 = (if n = 10 then (1 : Int32) else 0) := by rw [if_neg (show ¬ n = 10 from fun q => by subst q; exact absurd c_1 (by decide))]
    exact W.zret (v := 0) hx hb hr (by first | rfl | (split <;> rfl)) (fun t ht hW => ⟨_, rfl, hz, ht⟩) (fun q hq => absurd hq List.not_mem_nil) dX0_isFull_14
  · refine lv_iconst (v := 1) hx hb dX0_isFull_9 (by decide) ?_
    refine lv_goto (tgt := 14) hx hb dX0_isFull_10 (by decide) ?_
    have hz : 1 = (if n = 10 then (1 : Int32) else 0) := by rw [if_pos (by have h9 : ¬ n < 10 := fun q => c_1 ((lt_nI (a := n) (b := 10) (by omega)).mpr q); omega)]
    exact W.zret (v := 1) hx hb hr (by first | rfl | (split <;> rfl)) (fun t ht hW => ⟨_, rfl, hz, ht⟩) (fun q hq => absurd hq List.not_mem_nil) dX0_isFull_14
set_option maxHeartbeats 4000000 in
set_option maxRecDepth 100000 in
theorem met_X0_widowAt (l : Launch) (dC : Nat → ClassId) (dI : Nat → Nat → Nat) (cI cW : ClassId) (X Bk : Nat → Nat) (n : Nat) (ch pd pr yr : Int32) (Wd : Nat → Nat → Int32) (k : Nat) (hk : k < 10) : Met l yX0_widowAt wsX0_widowAt ({ frames := 0, cells := 0, slots := 0, locals := 0 }) (Pre0 dC dI cI cW [.ref (Bk 0), .int (nI k)] (bk cW X Bk n ch pd pr yr Wd)) (Sr0 (fun z => z = Bk (k + 2))) 0 0 (fun _ => False) := by
  refine Met.ofW (cc := cX0_widowAt) (maxL := 2) (ret := (some (.object "WidowPennies$Widow"))) (by decide) rfl ?_
  intro p e s m args below meth c s₁ B hml hv
  obtain ⟨rfl, hP, hKK⟩ := hv
  have hx := B.exec
  have hb := B.bytes
  have hr := B.returns
  have hts := atoms_spec (ws := wsX0_widowAt) B.pre
  have hown : s.vm.findClass RX0 = some m.cls := findClass_of_methodNamed B.named
  have hlocks := B.notSynchronized
  have hl := lv_entry ([.ref (Bk 0), .int (nI k)]) (n := 2) (Nat.le_of_ble_eq_true rfl)
  rw [lg_entry_eq]
  generalize (lg_sl ([.ref (Bk 0), .int (nI k)]) ++ List.replicate (2 - (lg_sl ([.ref (Bk 0), .int (nI k)])).length) Slot.unset).toArray = ls at hl ⊢
  have hl : lv_has ls 2 [(0, .ref (Bk 0)), (1, .int (nI k))] := hl
  refine lv_aload_n hx hb dX0_widowAt_0 rfl (lv_at hl 0 rfl) ?_
  refine va_get (D := (dC, dI)) (ci := 0) (v := .ref (Bk 1)) (C := RX0) (T := TX0) (N := 7) hx hb hts (by decide +kernel) hown hKK.1 hP 0 rfl rfl 1 (by decide) (hts (.fieldLink RX0 17 "WidowPennies$Book" "widows" "[LWidowPennies$Widow;") (by decide +kernel)) (fun _ h9 => h9) rfl dX0_widowAt_1 ?_
  refine lv_iload_n hx hb dX0_widowAt_4 rfl (lv_at hl 1 rfl) ?_
  refine lv_if_lt (tgt := 18) hx hb dX0_widowAt_5 (by decide) (fun c_1 => ?_) (fun c_1 => ?_)
  · exact absurd c_1 (nI_pos (by omega))
  · refine lv_iload_n hx hb dX0_widowAt_8 rfl (lv_at hl 1 rfl) ?_
    refine lv_bipush (v := 10) hx hb dX0_widowAt_9 (by decide) ?_
    refine lv_icmp_ge (tgt := 18) hx hb dX0_widowAt_11 (by decide) (fun c_2 => ?_) (fun c_2 => ?_)
    · exact absurd c_2 (nI_ge (b := 10) hk (by omega))
    · refine lv_iload_n hx hb dX0_widowAt_14 rfl (lv_at hl 1 rfl) ?_
      refine lv_goto (tgt := 19) hx hb dX0_widowAt_15 (by decide) ?_
      refine va_aldq hx hb hKK.1 hP 1 1 rfl rfl (vp_in_nI hk (by omega)) dX0_widowAt_19 ?_
      rw [show va_rf ((fun k => some (Bk (k + 2))) (nI k).toNatClampNeg) = .ref (Bk (k + 2)) from by rw [clamp_nI (show k < 2147483648 by omega)]; rfl]
      have hz : Bk (k + 2) = Bk (k + 2) := rfl
      exact W.aret (v := .ref (Bk (k + 2))) hx hb hr (Or.inl ⟨_, rfl⟩) (Or.inr ⟨_, rfl⟩) (fun t ht hW => ⟨_, rfl, hz, ht⟩) (fun q hq => absurd hq List.not_mem_nil) dX0_widowAt_20
set_option maxHeartbeats 4000000 in
set_option maxRecDepth 100000 in
theorem met_X0_living (l : Launch) (dC : Nat → ClassId) (dI : Nat → Nat → Nat) (cI cW : ClassId) (X Bk : Nat → Nat) (n : Nat) (ch pd pr yr : Int32) (Wd : Nat → Nat → Int32) (hn : n ≤ 10) : Met l yX0_living wsX0_living ({ frames := 1, cells := 0, slots := 0, locals := 21 }) (Pre0 dC dI cI cW [.ref (Bk 0)] (bk cW X Bk n ch pd pr yr Wd)) (vp_Si (fun z => z = sm (alvF Wd) n)) 0 0 (fun _ => False) := by
  refine Met.ofW (cc := cX0_living) (maxL := 3) (ret := (some .int)) (by decide) rfl ?_
  intro p e s m args below meth c s₁ B hml hv
  obtain ⟨rfl, hP, hKK⟩ := hv
  have hx := B.exec
  have hb := B.bytes
  have hr := B.returns
  have hts := atoms_spec (ws := wsX0_living) B.pre
  have hown : s.vm.findClass RX0 = some m.cls := findClass_of_methodNamed B.named
  have hlocks := B.notSynchronized
  have hl := lv_entry ([.ref (Bk 0)]) (n := 3) (Nat.le_of_ble_eq_true rfl)
  rw [lg_entry_eq]
  generalize (lg_sl ([.ref (Bk 0)]) ++ List.replicate (3 - (lg_sl ([.ref (Bk 0)])).length) Slot.unset).toArray = ls at hl ⊢
  have hl : lv_has ls 3 [(0, .ref (Bk 0))] := hl
  have key : ∀ (m9 j : Nat), j + m9 = n → ∀ ls : Array Slot, lv_has ls 3 [(2, .int (nI j)), (1, .int (sm (alvF Wd) j)), (0, .ref (Bk 0))] → W p l e (headSpec wsX0_living ({ frames := 1, cells := 0, slots := 0, locals := 21 })).room s m (([.ref (Bk 0)] : List Value).toArray) below meth c s.heap [] 0 0 (MQ below (vp_Si (fun z => z = sm (alvF Wd) n)) ([.ref (Bk 0)] : List Value).toArray s 0 0 (fun _ => False)) (F0 m 4 ls []) := by
    intro m9
    induction m9 with
    | zero =>
      intro j hj ls hl
      refine lv_iload_n hx hb dX0_living_4 rfl (lv_at hl 0 rfl) ?_
      refine lv_aload_n hx hb dX0_living_5 rfl (lv_at hl 2 rfl) ?_
      refine va_get (D := (dC, dI)) (ci := 0) (v := .int (nI n)) (C := RX0) (T := TX0) (N := 7) hx hb hts (by decide +kernel) hown hKK.1 hP 0 rfl rfl 2 (by decide) (hts (.fieldLink RX0 22 "WidowPennies$Book" "written" "I") (by decide +kernel)) (fun _ h9 => h9) rfl dX0_living_6 ?_
      refine lv_icmp_ge (tgt := 32) hx hb dX0_living_9 (by decide) (fun c_1 => ?_) (fun c_1 => ?_)
      · refine lv_iload_n hx hb dX0_living_32 rfl (lv_at hl 1 rfl) ?_
        have hz : sm (alvF Wd) j = sm (alvF Wd) n := by rw [show j = n by omega]
        exact W.iret (v := (sm (alvF Wd) j)) hx hb hr (fun t ht hW => ⟨_, rfl, hz, ht⟩) (fun q hq => absurd hq List.not_mem_nil) dX0_living_33
      · exact absurd ((le_nI (by omega)).mpr (by omega)) c_1
    | succ m9 ih =>
      intro j hj ls hl
      have hj10 : j < 10 := by omega
      refine lv_iload_n hx hb dX0_living_4 rfl (lv_at hl 0 rfl) ?_
      refine lv_aload_n hx hb dX0_living_5 rfl (lv_at hl 2 rfl) ?_
      refine va_get (D := (dC, dI)) (ci := 0) (v := .int (nI n)) (C := RX0) (T := TX0) (N := 7) hx hb hts (by decide +kernel) hown hKK.1 hP 0 rfl rfl 2 (by decide) (hts (.fieldLink RX0 22 "WidowPennies$Book" "written" "I") (by decide +kernel)) (fun _ h9 => h9) rfl dX0_living_6 ?_
      refine lv_icmp_ge (tgt := 32) hx hb dX0_living_9 (by decide) (fun c_1 => ?_) (fun c_1 => ?_)
      · exact absurd c_1 (fun q => absurd ((le_nI (by omega)).mp q) (by omega))
      · refine lv_aload_n hx hb dX0_living_12 rfl (lv_at hl 2 rfl) ?_
        refine lv_iload_n hx hb dX0_living_13 rfl (lv_at hl 0 rfl) ?_
        refine rd_r (runV0 (As := [.int (nI j)]) (rest := []) ⟨hx, hb, hml, hown, hts⟩ (met_X0_widowAt l dC dI cI cW X Bk n ch pd pr yr Wd j hj10) (cwV 1 hts gX0_living_X0_widowAt rfl rfl rfl (by decide +kernel) ⟨Nat.le_of_ble_eq_true rfl, Nat.le_of_ble_eq_true rfl⟩) hKK hP 0 0 rfl rfl rfl hl.1 (Nat.le_of_ble_eq_true rfl) rfl dX0_living_14 ⟨Nat.zero_le _, Nat.zero_le _⟩) (fun r_2 hr_2 => ?_)
        subst hr_2
        refine rd_i (runV0 (As := []) (rest := []) ⟨hx, hb, hml, hown, hts⟩ (met_X2_lives l dC dI cI cW (Bk (j + 2)) (Wd j)) (cwV 0 hts gX0_living_X2_lives rfl rfl rfl (by decide +kernel) ⟨Nat.le_of_ble_eq_true rfl, Nat.le_of_ble_eq_true rfl⟩) hKK (ws_one hP (bk_at hj10)) 2 0 rfl rfl rfl hl.1 (Nat.le_of_ble_eq_true rfl) rfl dX0_living_17 ⟨Nat.zero_le _, Nat.zero_le _⟩) (fun r_3 hr_3 => ?_)
        subst hr_3
        refine lv_if_eq (tgt := 26) hx hb dX0_living_20 (by decide) (fun c_4 => ?_) (fun c_4 => ?_)
        · have bc_4 : ¬ ((Wd j) 4 = 0) := b0.mp c_4
          have hno := bc_4
          refine lv_iinc (v := (nI (j + 1))) (lv' := [(2, .int (nI (j + 1))), (1, .int (sm (alvF Wd) j)), (0, .ref (Bk 0))]) hx hb dX0_living_26 hl (k := 0) rfl (nI_1 j) (by decide) rfl (fun ls hl => ?_)
          refine lv_goto (tgt := 4) hx hb dX0_living_29 (by decide) ?_
          have e0 : sm (alvF Wd) (j + 1) = sm (alvF Wd) j := by simp [sm, alvF, ageF, dueF, hno]
          exact ih (j + 1) (by omega) ls (hl_to (by rw [e0]; rfl) (lv_sub hl [0, 1, 2] rfl))
        · have bc_4 : (Wd j) 4 = 0 := b1.mp c_4
          have hal := bc_4
          refine lv_iinc (v := (sm (alvF Wd) (j + 1))) (lv' := [(1, .int (sm (alvF Wd) (j + 1))), (2, .int (nI j)), (0, .ref (Bk 0))]) hx hb dX0_living_23 hl (k := 1) rfl (by show sm (alvF Wd) j + 1 = _; simp [sm, alvF, ageF, hal]) (by decide) rfl (fun ls hl => ?_)
          refine lv_iinc (v := (nI (j + 1))) (lv' := [(2, .int (nI (j + 1))), (1, .int (sm (alvF Wd) (j + 1))), (0, .ref (Bk 0))]) hx hb dX0_living_26 hl (k := 1) rfl (nI_1 j) (by decide) rfl (fun ls hl => ?_)
          refine lv_goto (tgt := 4) hx hb dX0_living_29 (by decide) ?_
          exact ih (j + 1) (by omega) ls (lv_sub hl [0, 1, 2] rfl)
  refine lv_iconst (v := 0) hx hb dX0_living_0 (by decide) ?_
  refine lv_istore_n (lv' := [(1, .int 0), (0, .ref (Bk 0))]) hx hb dX0_living_1 rfl hl (by decide) rfl (fun ls hl => ?_)
  refine lv_iconst (v := 0) hx hb dX0_living_2 (by decide) ?_
  refine lv_istore_n (lv' := [(2, .int 0), (1, .int 0), (0, .ref (Bk 0))]) hx hb dX0_living_3 rfl hl (by decide) rfl (fun ls hl => ?_)
  exact key n 0 (by omega) ls (lv_sub hl [0, 1, 2] rfl)
set_option maxHeartbeats 4000000 in
set_option maxRecDepth 100000 in
theorem met_X0_agesOfLiving (l : Launch) (dC : Nat → ClassId) (dI : Nat → Nat → Nat) (cI cW : ClassId) (X Bk : Nat → Nat) (n : Nat) (ch pd pr yr : Int32) (Wd : Nat → Nat → Int32) (hn : n ≤ 10) : Met l yX0_agesOfLiving wsX0_agesOfLiving ({ frames := 1, cells := 0, slots := 0, locals := 21 }) (Pre0 dC dI cI cW [.ref (Bk 0)] (bk cW X Bk n ch pd pr yr Wd)) (vp_Si (fun z => z = sm (ageF Wd) n)) 0 0 (fun _ => False) := by
  refine Met.ofW (cc := cX0_agesOfLiving) (maxL := 4) (ret := (some .int)) (by decide) rfl ?_
  intro p e s m args below meth c s₁ B hml hv
  obtain ⟨rfl, hP, hKK⟩ := hv
  have hx := B.exec
  have hb := B.bytes
  have hr := B.returns
  have hts := atoms_spec (ws := wsX0_agesOfLiving) B.pre
  have hown : s.vm.findClass RX0 = some m.cls := findClass_of_methodNamed B.named
  have hlocks := B.notSynchronized
  have hl := lv_entry ([.ref (Bk 0)]) (n := 4) (Nat.le_of_ble_eq_true rfl)
  rw [lg_entry_eq]
  generalize (lg_sl ([.ref (Bk 0)]) ++ List.replicate (4 - (lg_sl ([.ref (Bk 0)])).length) Slot.unset).toArray = ls at hl ⊢
  have hl : lv_has ls 4 [(0, .ref (Bk 0))] := hl
  have key : ∀ (m9 j : Nat), j + m9 = n → ∀ ls : Array Slot, lv_has ls 4 [(2, .int (nI j)), (1, .int (sm (ageF Wd) j)), (0, .ref (Bk 0))] → W p l e (headSpec wsX0_agesOfLiving ({ frames := 1, cells := 0, slots := 0, locals := 21 })).room s m (([.ref (Bk 0)] : List Value).toArray) below meth c s.heap [] 0 0 (MQ below (vp_Si (fun z => z = sm (ageF Wd) n)) ([.ref (Bk 0)] : List Value).toArray s 0 0 (fun _ => False)) (F0 m 4 ls []) := by
    intro m9
    induction m9 with
    | zero =>
      intro j hj ls hl
      refine lv_iload_n hx hb dX0_agesOfLiving_4 rfl (lv_at hl 0 rfl) ?_
      refine lv_aload_n hx hb dX0_agesOfLiving_5 rfl (lv_at hl 2 rfl) ?_
      refine va_get (D := (dC, dI)) (ci := 0) (v := .int (nI n)) (C := RX0) (T := TX0) (N := 7) hx hb hts (by decide +kernel) hown hKK.1 hP 0 rfl rfl 2 (by decide) (hts (.fieldLink RX0 22 "WidowPennies$Book" "written" "I") (by decide +kernel)) (fun _ h9 => h9) rfl dX0_agesOfLiving_6 ?_
      refine lv_icmp_ge (tgt := 38) hx hb dX0_agesOfLiving_9 (by decide) (fun c_1 => ?_) (fun c_1 => ?_)
      · refine lv_iload_n hx hb dX0_agesOfLiving_38 rfl (lv_at hl 1 rfl) ?_
        have hz : sm (ageF Wd) j = sm (ageF Wd) n := by rw [show j = n by omega]
        exact W.iret (v := (sm (ageF Wd) j)) hx hb hr (fun t ht hW => ⟨_, rfl, hz, ht⟩) (fun q hq => absurd hq List.not_mem_nil) dX0_agesOfLiving_39
      · exact absurd ((le_nI (by omega)).mpr (by omega)) c_1
    | succ m9 ih =>
      intro j hj ls hl
      have hj10 : j < 10 := by omega
      refine lv_iload_n hx hb dX0_agesOfLiving_4 rfl (lv_at hl 0 rfl) ?_
      refine lv_aload_n hx hb dX0_agesOfLiving_5 rfl (lv_at hl 2 rfl) ?_
      refine va_get (D := (dC, dI)) (ci := 0) (v := .int (nI n)) (C := RX0) (T := TX0) (N := 7) hx hb hts (by decide +kernel) hown hKK.1 hP 0 rfl rfl 2 (by decide) (hts (.fieldLink RX0 22 "WidowPennies$Book" "written" "I") (by decide +kernel)) (fun _ h9 => h9) rfl dX0_agesOfLiving_6 ?_
      refine lv_icmp_ge (tgt := 38) hx hb dX0_agesOfLiving_9 (by decide) (fun c_1 => ?_) (fun c_1 => ?_)
      · exact absurd c_1 (fun q => absurd ((le_nI (by omega)).mp q) (by omega))
      · refine lv_aload_n hx hb dX0_agesOfLiving_12 rfl (lv_at hl 2 rfl) ?_
        refine lv_iload_n hx hb dX0_agesOfLiving_13 rfl (lv_at hl 0 rfl) ?_
        refine rd_r (runV0 (As := [.int (nI j)]) (rest := []) ⟨hx, hb, hml, hown, hts⟩ (met_X0_widowAt l dC dI cI cW X Bk n ch pd pr yr Wd j hj10) (cwV 1 hts gX0_agesOfLiving_X0_widowAt rfl rfl rfl (by decide +kernel) ⟨Nat.le_of_ble_eq_true rfl, Nat.le_of_ble_eq_true rfl⟩) hKK hP 0 0 rfl rfl rfl hl.1 (Nat.le_of_ble_eq_true rfl) rfl dX0_agesOfLiving_14 ⟨Nat.zero_le _, Nat.zero_le _⟩) (fun r_2 hr_2 => ?_)
        subst hr_2
        refine lv_astore_n (lv' := [(3, .ref (Bk (j + 2))), (2, .int (nI j)), (1, .int (sm (ageF Wd) j)), (0, .ref (Bk 0))]) hx hb dX0_agesOfLiving_17 rfl hl (by decide) rfl (fun ls hl => ?_)
        refine lv_aload_n hx hb dX0_agesOfLiving_18 rfl (lv_at hl 0 rfl) ?_
        refine rd_i (runV0 (As := []) (rest := []) ⟨hx, hb, hml, hown, hts⟩ (met_X2_lives l dC dI cI cW (Bk (j + 2)) (Wd j)) (cwV 0 hts gX0_agesOfLiving_X2_lives rfl rfl rfl (by decide +kernel) ⟨Nat.le_of_ble_eq_true rfl, Nat.le_of_ble_eq_true rfl⟩) hKK (ws_one hP (bk_at hj10)) 2 0 rfl rfl rfl hl.1 (Nat.le_of_ble_eq_true rfl) rfl dX0_agesOfLiving_19 ⟨Nat.zero_le _, Nat.zero_le _⟩) (fun r_3 hr_3 => ?_)
        subst hr_3
        refine lv_if_eq (tgt := 32) hx hb dX0_agesOfLiving_22 (by decide) (fun c_4 => ?_) (fun c_4 => ?_)
        · have bc_4 : ¬ ((Wd j) 4 = 0) := b0.mp c_4
          have hno := bc_4
          refine lv_iinc (v := (nI (j + 1))) (lv' := [(2, .int (nI (j + 1))), (3, .ref (Bk (j + 2))), (1, .int (sm (ageF Wd) j)), (0, .ref (Bk 0))]) hx hb dX0_agesOfLiving_32 hl (k := 1) rfl (nI_1 j) (by decide) rfl (fun ls hl => ?_)
          refine lv_goto (tgt := 4) hx hb dX0_agesOfLiving_35 (by decide) ?_
          have e0 : sm (ageF Wd) (j + 1) = sm (ageF Wd) j := by simp [sm, alvF, ageF, dueF, hno]
          exact ih (j + 1) (by omega) ls (hl_to (by rw [e0]; rfl) (lv_sub hl [0, 2, 3] rfl))
        · have bc_4 : (Wd j) 4 = 0 := b1.mp c_4
          have hal := bc_4
          refine lv_iload_n hx hb dX0_agesOfLiving_25 rfl (lv_at hl 2 rfl) ?_
          refine lv_aload_n hx hb dX0_agesOfLiving_26 rfl (lv_at hl 0 rfl) ?_
          refine va_get (D := (dC, dI)) (ci := 2) (v := .int (Wd j 0)) (C := RX2) (T := TX2) (N := 7) hx hb hts (by decide +kernel) hown hKK.1 hP (j + 2) (bk_at hj10) rfl 0 (by decide) (hts (.fieldLink RX0 90 "WidowPennies$Widow" "age" "I") (by decide +kernel)) (fun _ h9 => h9) rfl dX0_agesOfLiving_27 ?_
          refine lv_iadd hx hb dX0_agesOfLiving_30 ?_
          rw [show ((sm (ageF Wd) j) + (Wd j 0) : Int32) = sm (ageF Wd) (j + 1) from by simp [sm, alvF, ageF, hal]]
          refine lv_istore_n (lv' := [(1, .int (sm (ageF Wd) (j + 1))), (3, .ref (Bk (j + 2))), (2, .int (nI j)), (0, .ref (Bk 0))]) hx hb dX0_agesOfLiving_31 rfl hl (by decide) rfl (fun ls hl => ?_)
          refine lv_iinc (v := (nI (j + 1))) (lv' := [(2, .int (nI (j + 1))), (1, .int (sm (ageF Wd) (j + 1))), (3, .ref (Bk (j + 2))), (0, .ref (Bk 0))]) hx hb dX0_agesOfLiving_32 hl (k := 2) rfl (nI_1 j) (by decide) rfl (fun ls hl => ?_)
          refine lv_goto (tgt := 4) hx hb dX0_agesOfLiving_35 (by decide) ?_
          exact ih (j + 1) (by omega) ls (lv_sub hl [0, 1, 3] rfl)
  refine lv_iconst (v := 0) hx hb dX0_agesOfLiving_0 (by decide) ?_
  refine lv_istore_n (lv' := [(1, .int 0), (0, .ref (Bk 0))]) hx hb dX0_agesOfLiving_1 rfl hl (by decide) rfl (fun ls hl => ?_)
  refine lv_iconst (v := 0) hx hb dX0_agesOfLiving_2 (by decide) ?_
  refine lv_istore_n (lv' := [(2, .int 0), (1, .int 0), (0, .ref (Bk 0))]) hx hb dX0_agesOfLiving_3 rfl hl (by decide) rfl (fun ls hl => ?_)
  exact key n 0 (by omega) ls (lv_sub hl [0, 1, 2] rfl)
set_option maxHeartbeats 4000000 in
set_option maxRecDepth 100000 in
theorem met_X0_sumsDue (l : Launch) (dC : Nat → ClassId) (dI : Nat → Nat → Nat) (cI cW : ClassId) (X Bk : Nat → Nat) (n : Nat) (ch pd pr yr : Int32) (Wd : Nat → Nat → Int32) (hn : n ≤ 10) : Met l yX0_sumsDue wsX0_sumsDue ({ frames := 1, cells := 0, slots := 0, locals := 21 }) (Pre0 dC dI cI cW [.ref (Bk 0)] (bk cW X Bk n ch pd pr yr Wd)) (vp_Si (fun z => z = sm (dueF Wd) n)) 0 0 (fun _ => False) := by
  refine Met.ofW (cc := cX0_sumsDue) (maxL := 4) (ret := (some .int)) (by decide) rfl ?_
  intro p e s m args below meth c s₁ B hml hv
  obtain ⟨rfl, hP, hKK⟩ := hv
  have hx := B.exec
  have hb := B.bytes
  have hr := B.returns
  have hts := atoms_spec (ws := wsX0_sumsDue) B.pre
  have hown : s.vm.findClass RX0 = some m.cls := findClass_of_methodNamed B.named
  have hlocks := B.notSynchronized
  have hl := lv_entry ([.ref (Bk 0)]) (n := 4) (Nat.le_of_ble_eq_true rfl)
  rw [lg_entry_eq]
  generalize (lg_sl ([.ref (Bk 0)]) ++ List.replicate (4 - (lg_sl ([.ref (Bk 0)])).length) Slot.unset).toArray = ls at hl ⊢
  have hl : lv_has ls 4 [(0, .ref (Bk 0))] := hl
  have key : ∀ (m9 j : Nat), j + m9 = n → ∀ ls : Array Slot, lv_has ls 4 [(2, .int (nI j)), (1, .int (sm (dueF Wd) j)), (0, .ref (Bk 0))] → W p l e (headSpec wsX0_sumsDue ({ frames := 1, cells := 0, slots := 0, locals := 21 })).room s m (([.ref (Bk 0)] : List Value).toArray) below meth c s.heap [] 0 0 (MQ below (vp_Si (fun z => z = sm (dueF Wd) n)) ([.ref (Bk 0)] : List Value).toArray s 0 0 (fun _ => False)) (F0 m 4 ls []) := by
    intro m9
    induction m9 with
    | zero =>
      intro j hj ls hl
      refine lv_iload_n hx hb dX0_sumsDue_4 rfl (lv_at hl 0 rfl) ?_
      refine lv_aload_n hx hb dX0_sumsDue_5 rfl (lv_at hl 2 rfl) ?_
      refine va_get (D := (dC, dI)) (ci := 0) (v := .int (nI n)) (C := RX0) (T := TX0) (N := 7) hx hb hts (by decide +kernel) hown hKK.1 hP 0 rfl rfl 2 (by decide) (hts (.fieldLink RX0 22 "WidowPennies$Book" "written" "I") (by decide +kernel)) (fun _ h9 => h9) rfl dX0_sumsDue_6 ?_
      refine lv_icmp_ge (tgt := 45) hx hb dX0_sumsDue_9 (by decide) (fun c_1 => ?_) (fun c_1 => ?_)
      · refine lv_iload_n hx hb dX0_sumsDue_45 rfl (lv_at hl 1 rfl) ?_
        have hz : sm (dueF Wd) j = sm (dueF Wd) n := by rw [show j = n by omega]
        exact W.iret (v := (sm (dueF Wd) j)) hx hb hr (fun t ht hW => ⟨_, rfl, hz, ht⟩) (fun q hq => absurd hq List.not_mem_nil) dX0_sumsDue_46
      · exact absurd ((le_nI (by omega)).mpr (by omega)) c_1
    | succ m9 ih =>
      intro j hj ls hl
      have hj10 : j < 10 := by omega
      refine lv_iload_n hx hb dX0_sumsDue_4 rfl (lv_at hl 0 rfl) ?_
      refine lv_aload_n hx hb dX0_sumsDue_5 rfl (lv_at hl 2 rfl) ?_
      refine va_get (D := (dC, dI)) (ci := 0) (v := .int (nI n)) (C := RX0) (T := TX0) (N := 7) hx hb hts (by decide +kernel) hown hKK.1 hP 0 rfl rfl 2 (by decide) (hts (.fieldLink RX0 22 "WidowPennies$Book" "written" "I") (by decide +kernel)) (fun _ h9 => h9) rfl dX0_sumsDue_6 ?_
      refine lv_icmp_ge (tgt := 45) hx hb dX0_sumsDue_9 (by decide) (fun c_1 => ?_) (fun c_1 => ?_)
      · exact absurd c_1 (fun q => absurd ((le_nI (by omega)).mp q) (by omega))
      · refine lv_aload_n hx hb dX0_sumsDue_12 rfl (lv_at hl 2 rfl) ?_
        refine lv_iload_n hx hb dX0_sumsDue_13 rfl (lv_at hl 0 rfl) ?_
        refine rd_r (runV0 (As := [.int (nI j)]) (rest := []) ⟨hx, hb, hml, hown, hts⟩ (met_X0_widowAt l dC dI cI cW X Bk n ch pd pr yr Wd j hj10) (cwV 1 hts gX0_sumsDue_X0_widowAt rfl rfl rfl (by decide +kernel) ⟨Nat.le_of_ble_eq_true rfl, Nat.le_of_ble_eq_true rfl⟩) hKK hP 0 0 rfl rfl rfl hl.1 (Nat.le_of_ble_eq_true rfl) rfl dX0_sumsDue_14 ⟨Nat.zero_le _, Nat.zero_le _⟩) (fun r_2 hr_2 => ?_)
        subst hr_2
        refine lv_astore_n (lv' := [(3, .ref (Bk (j + 2))), (2, .int (nI j)), (1, .int (sm (dueF Wd) j)), (0, .ref (Bk 0))]) hx hb dX0_sumsDue_17 rfl hl (by decide) rfl (fun ls hl => ?_)
        refine lv_aload_n hx hb dX0_sumsDue_18 rfl (lv_at hl 0 rfl) ?_
        refine rd_i (runV0 (As := []) (rest := []) ⟨hx, hb, hml, hown, hts⟩ (met_X2_lives l dC dI cI cW (Bk (j + 2)) (Wd j)) (cwV 0 hts gX0_sumsDue_X2_lives rfl rfl rfl (by decide +kernel) ⟨Nat.le_of_ble_eq_true rfl, Nat.le_of_ble_eq_true rfl⟩) hKK (ws_one hP (bk_at hj10)) 2 0 rfl rfl rfl hl.1 (Nat.le_of_ble_eq_true rfl) rfl dX0_sumsDue_19 ⟨Nat.zero_le _, Nat.zero_le _⟩) (fun r_3 hr_3 => ?_)
        subst hr_3
        refine lv_if_eq (tgt := 39) hx hb dX0_sumsDue_22 (by decide) (fun c_4 => ?_) (fun c_4 => ?_)
        · have bc_4 : ¬ ((Wd j) 4 = 0) := b0.mp c_4
          have hno : ¬ (Wd j 4 = 0 ∧ Wd j 2 = 0) := fun q => bc_4 q.1
          refine lv_iinc (v := (nI (j + 1))) (lv' := [(2, .int (nI (j + 1))), (3, .ref (Bk (j + 2))), (1, .int (sm (dueF Wd) j)), (0, .ref (Bk 0))]) hx hb dX0_sumsDue_39 hl (k := 1) rfl (nI_1 j) (by decide) rfl (fun ls hl => ?_)
          refine lv_goto (tgt := 4) hx hb dX0_sumsDue_42 (by decide) ?_
          have e0 : sm (dueF Wd) (j + 1) = sm (dueF Wd) j := by simp [sm, alvF, ageF, dueF, hno]
          exact ih (j + 1) (by omega) ls (hl_to (by rw [e0]; rfl) (lv_sub hl [0, 2, 3] rfl))
        · have bc_4 : (Wd j) 4 = 0 := b1.mp c_4
          have hal := bc_4
          refine lv_aload_n hx hb dX0_sumsDue_25 rfl (lv_at hl 0 rfl) ?_
          refine va_get (D := (dC, dI)) (ci := 2) (v := .int (Wd j 2)) (C := RX2) (T := TX2) (N := 7) hx hb hts (by decide +kernel) hown hKK.1 hP (j + 2) (bk_at hj10) rfl 2 (by decide) (hts (.fieldLink RX0 93 "WidowPennies$Widow" "wait" "I") (by decide +kernel)) (fun _ h9 => h9) rfl dX0_sumsDue_26 ?_
          refine lv_if_ne (tgt := 39) hx hb dX0_sumsDue_29 (by decide) (fun c_5 => ?_) (fun c_5 => ?_)
          · have hno : ¬ (Wd j 4 = 0 ∧ Wd j 2 = 0) := fun q => c_5 q.2
            refine lv_iinc (v := (nI (j + 1))) (lv' := [(2, .int (nI (j + 1))), (3, .ref (Bk (j + 2))), (1, .int (sm (dueF Wd) j)), (0, .ref (Bk 0))]) hx hb dX0_sumsDue_39 hl (k := 1) rfl (nI_1 j) (by decide) rfl (fun ls hl => ?_)
            refine lv_goto (tgt := 4) hx hb dX0_sumsDue_42 (by decide) ?_
            have e0 : sm (dueF Wd) (j + 1) = sm (dueF Wd) j := by simp [sm, alvF, ageF, dueF, hno]
            exact ih (j + 1) (by omega) ls (hl_to (by rw [e0]; rfl) (lv_sub hl [0, 2, 3] rfl))
          · have hw0 := c_5
            refine lv_iload_n hx hb dX0_sumsDue_32 rfl (lv_at hl 2 rfl) ?_
            refine lv_aload_n hx hb dX0_sumsDue_33 rfl (lv_at hl 0 rfl) ?_
            refine va_get (D := (dC, dI)) (ci := 2) (v := .int (Wd j 1)) (C := RX2) (T := TX2) (N := 7) hx hb hts (by decide +kernel) hown hKK.1 hP (j + 2) (bk_at hj10) rfl 1 (by decide) (hts (.fieldLink RX0 96 "WidowPennies$Widow" "sum" "I") (by decide +kernel)) (fun _ h9 => h9) rfl dX0_sumsDue_34 ?_
            refine lv_iadd hx hb dX0_sumsDue_37 ?_
            rw [show ((sm (dueF Wd) j) + (Wd j 1) : Int32) = sm (dueF Wd) (j + 1) from by simp [sm, dueF, hal, hw0]]
            refine lv_istore_n (lv' := [(1, .int (sm (dueF Wd) (j + 1))), (3, .ref (Bk (j + 2))), (2, .int (nI j)), (0, .ref (Bk 0))]) hx hb dX0_sumsDue_38 rfl hl (by decide) rfl (fun ls hl => ?_)
            refine lv_iinc (v := (nI (j + 1))) (lv' := [(2, .int (nI (j + 1))), (1, .int (sm (dueF Wd) (j + 1))), (3, .ref (Bk (j + 2))), (0, .ref (Bk 0))]) hx hb dX0_sumsDue_39 hl (k := 2) rfl (nI_1 j) (by decide) rfl (fun ls hl => ?_)
            refine lv_goto (tgt := 4) hx hb dX0_sumsDue_42 (by decide) ?_
            exact ih (j + 1) (by omega) ls (lv_sub hl [0, 1, 3] rfl)
  refine lv_iconst (v := 0) hx hb dX0_sumsDue_0 (by decide) ?_
  refine lv_istore_n (lv' := [(1, .int 0), (0, .ref (Bk 0))]) hx hb dX0_sumsDue_1 rfl hl (by decide) rfl (fun ls hl => ?_)
  refine lv_iconst (v := 0) hx hb dX0_sumsDue_2 (by decide) ?_
  refine lv_istore_n (lv' := [(2, .int 0), (1, .int 0), (0, .ref (Bk 0))]) hx hb dX0_sumsDue_3 rfl hl (by decide) rfl (fun ls hl => ?_)
  exact key n 0 (by omega) ls (lv_sub hl [0, 1, 2] rfl)
set_option maxHeartbeats 4000000 in
set_option maxRecDepth 100000 in
theorem met_X0_keptForAll (l : Launch) (dC : Nat → ClassId) (dI : Nat → Nat → Nat) (cI cW : ClassId) (X Bk : Nat → Nat) (d r : Nat → Int32) (n : Nat) (ch pd pr yr : Int32) (Wd : Nat → Nat → Int32) (R : va_W) (hn : n ≤ 10) (hok : ∀ k, k < n → okW (Wd k)) (i : Int32) (hi : ¬ (1000 : Int32) + i = 0) (hi0 : ¬ i < 0) : Met l yX0_keptForAll wsX0_keptForAll ({ frames := 4, cells := 0, slots := 0, locals := 90 }) (Pre0 dC dI cI cW [.ref (Bk 0), .int i] (tab cI X d r ++ (bk cW X Bk n ch pd pr yr Wd ++ R))) (vp_Si (fun z => z = sm (kptF d i Wd) n)) 0 0 (fun _ => False) := by
  refine Met.ofW (cc := cX0_keptForAll) (maxL := 4) (ret := (some .int)) (by decide) rfl ?_
  intro p e s m args below meth c s₁ B hml hv
  obtain ⟨rfl, hP, hKK⟩ := hv
  have hx := B.exec
  have hb := B.bytes
  have hr := B.returns
  have hts := atoms_spec (ws := wsX0_keptForAll) B.pre
  have hown : s.vm.findClass RX0 = some m.cls := findClass_of_methodNamed B.named
  have hlocks := B.notSynchronized
  have hl := lv_entry ([.ref (Bk 0), .int i]) (n := 4) (Nat.le_of_ble_eq_true rfl)
  rw [lg_entry_eq]
  generalize (lg_sl ([.ref (Bk 0), .int i]) ++ List.replicate (4 - (lg_sl ([.ref (Bk 0), .int i])).length) Slot.unset).toArray = ls at hl ⊢
  have hl : lv_has ls 4 [(0, .ref (Bk 0)), (1, .int i)] := hl
  have key : ∀ (m9 j : Nat), j + m9 = n → ∀ ls : Array Slot, lv_has ls 4 [(3, .int (nI j)), (2, .int (sm (kptF d i Wd) j)), (0, .ref (Bk 0)), (1, .int i)] → W p l e (headSpec wsX0_keptForAll ({ frames := 4, cells := 0, slots := 0, locals := 90 })).room s m (([.ref (Bk 0), .int i] : List Value).toArray) below meth c s.heap [] 0 0 (MQ below (vp_Si (fun z => z = sm (kptF d i Wd) n)) ([.ref (Bk 0), .int i] : List Value).toArray s 0 0 (fun _ => False)) (F0 m 4 ls []) := by
    intro m9
    induction m9 with
    | zero =>
      intro j hj ls hl
      refine lv_iload_n hx hb dX0_keptForAll_4 rfl (lv_at hl 0 rfl) ?_
      refine lv_aload_n hx hb dX0_keptForAll_5 rfl (lv_at hl 2 rfl) ?_
      refine va_get (D := (dC, dI)) (ci := 0) (v := .int (nI n)) (C := RX0) (T := TX0) (N := 7) hx hb hts (by decide +kernel) hown hKK.1 hP 3 rfl rfl 2 (by decide) (hts (.fieldLink RX0 22 "WidowPennies$Book" "written" "I") (by decide +kernel)) (fun _ h9 => h9) rfl dX0_keptForAll_6 ?_
      refine lv_icmp_ge (tgt := 34) hx hb dX0_keptForAll_9 (by decide) (fun c_1 => ?_) (fun c_1 => ?_)
      · refine lv_iload_n hx hb dX0_keptForAll_34 rfl (lv_at hl 1 rfl) ?_
        have hz : sm (kptF d i Wd) j = sm (kptF d i Wd) n := by rw [show j = n by omega]
        exact W.iret (v := (sm (kptF d i Wd) j)) hx hb hr (fun t ht hW => ⟨_, rfl, hz, ht⟩) (fun q hq => absurd hq List.not_mem_nil) dX0_keptForAll_35
      · exact absurd ((le_nI (by omega)).mpr (by omega)) c_1
    | succ m9 ih =>
      intro j hj ls hl
      have hj10 : j < 10 := by omega
      refine lv_iload_n hx hb dX0_keptForAll_4 rfl (lv_at hl 0 rfl) ?_
      refine lv_aload_n hx hb dX0_keptForAll_5 rfl (lv_at hl 2 rfl) ?_
      refine va_get (D := (dC, dI)) (ci := 0) (v := .int (nI n)) (C := RX0) (T := TX0) (N := 7) hx hb hts (by decide +kernel) hown hKK.1 hP 3 rfl rfl 2 (by decide) (hts (.fieldLink RX0 22 "WidowPennies$Book" "written" "I") (by decide +kernel)) (fun _ h9 => h9) rfl dX0_keptForAll_6 ?_
      refine lv_icmp_ge (tgt := 34) hx hb dX0_keptForAll_9 (by decide) (fun c_1 => ?_) (fun c_1 => ?_)
      · exact absurd c_1 (fun q => absurd ((le_nI (by omega)).mp q) (by omega))
      · refine lv_iload_n hx hb dX0_keptForAll_12 rfl (lv_at hl 1 rfl) ?_
        refine lv_aload_n hx hb dX0_keptForAll_13 rfl (lv_at hl 2 rfl) ?_
        refine va_get (D := (dC, dI)) (ci := 0) (v := .ref (X 1)) (C := RX0) (T := TX0) (N := 7) hx hb hts (by decide +kernel) hown hKK.1 hP 3 rfl rfl 0 (by decide) (hts (.fieldLink RX0 9 "WidowPennies$Book" "tables" "LWidowPennies$Tables;") (by decide +kernel)) (fun _ h9 => h9) rfl dX0_keptForAll_14 ?_
        refine lv_aload_n hx hb dX0_keptForAll_17 rfl (lv_at hl 2 rfl) ?_
        refine lv_iload_n hx hb dX0_keptForAll_18 rfl (lv_at hl 0 rfl) ?_
        refine rd_r (runV0 (As := [.int (nI j)]) (rest := [.ref (X 1), .int (sm (kptF d i Wd) j)]) ⟨hx, hb, hml, hown, hts⟩ (met_X0_widowAt l dC dI cI cW X Bk n ch pd pr yr Wd j hj10) (cwV 1 hts gX0_keptForAll_X0_widowAt rfl rfl rfl (by decide +kernel) ⟨Nat.le_of_ble_eq_true rfl, Nat.le_of_ble_eq_true rfl⟩) hKK (ws_left (ws_right hP)) 0 0 rfl rfl rfl hl.1 (Nat.le_of_ble_eq_true rfl) rfl dX0_keptForAll_19 ⟨Nat.zero_le _, Nat.zero_le _⟩) (fun r_2 hr_2 => ?_)
        subst hr_2
        refine lv_iload_n hx hb dX0_keptForAll_22 rfl (lv_at hl 3 rfl) ?_
        refine rd_i (runV0 (As := [.ref (Bk (j + 2)), .int i]) (rest := [.int (sm (kptF d i Wd) j)]) ⟨hx, hb, hml, hown, hts⟩ (met_X1_keptWith l dC dI cI cW X d r (Bk (j + 2)) (Wd j) (hok j (by omega)) i hi hi0) (cwV 2 hts gX0_keptForAll_X1_keptWith rfl rfl rfl (by decide +kernel) ⟨Nat.le_of_ble_eq_true rfl, Nat.le_of_ble_eq_true rfl⟩) hKK ((ws_left hP).app (ws_one hP (bw_at hj10))) 1 0 rfl rfl rfl hl.1 (Nat.le_of_ble_eq_true rfl) rfl dX0_keptForAll_23 ⟨Nat.zero_le _, Nat.zero_le _⟩) (fun r_3 hr_3 => ?_)
        subst hr_3
        refine lv_iadd hx hb dX0_keptForAll_26 ?_
        rw [show ((sm (kptF d i Wd) j) + (keptS d i (Wd j)) : Int32) = sm (kptF d i Wd) (j + 1) from by simp [sm, kptF]]
        refine lv_istore_n (lv' := [(2, .int (sm (kptF d i Wd) (j + 1))), (3, .int (nI j)), (0, .ref (Bk 0)), (1, .int i)]) hx hb dX0_keptForAll_27 rfl hl (by decide) rfl (fun ls hl => ?_)
        refine lv_iinc (v := (nI (j + 1))) (lv' := [(3, .int (nI (j + 1))), (2, .int (sm (kptF d i Wd) (j + 1))), (0, .ref (Bk 0)), (1, .int i)]) hx hb dX0_keptForAll_28 hl (k := 1) rfl (nI_1 j) (by decide) rfl (fun ls hl => ?_)
        refine lv_goto (tgt := 4) hx hb dX0_keptForAll_31 (by decide) ?_
        exact ih (j + 1) (by omega) ls (lv_sub hl [0, 1, 2, 3] rfl)
  refine lv_iconst (v := 0) hx hb dX0_keptForAll_0 (by decide) ?_
  refine lv_istore_n (lv' := [(2, .int 0), (0, .ref (Bk 0)), (1, .int i)]) hx hb dX0_keptForAll_1 rfl hl (by decide) rfl (fun ls hl => ?_)
  refine lv_iconst (v := 0) hx hb dX0_keptForAll_2 (by decide) ?_
  refine lv_istore_n (lv' := [(3, .int 0), (2, .int 0), (0, .ref (Bk 0)), (1, .int i)]) hx hb dX0_keptForAll_3 rfl hl (by decide) rfl (fun ls hl => ?_)
  exact key n 0 (by omega) ls (lv_sub hl [0, 1, 2, 3] rfl)
set_option maxHeartbeats 4000000 in
set_option maxRecDepth 100000 in
theorem met_X0_tell (l : Launch) (dC : Nat → ClassId) (dI : Nat → Nat → Nat) (cI cW : ClassId) (X Bk : Nat → Nat) (d r : Nat → Int32) (n : Nat) (ch pd pr yr : Int32) (Wd : Nat → Nat → Int32) (R : va_W) (hn : n ≤ 10) (hok : ∀ k, k < n → okW (Wd k)) (k : Nat) (hk : k < 9) (hi : ¬ (1000 : Int32) + r 0 = 0) (hi0 : ¬ r 0 < 0) : Met l yX0_tell wsX0_tell ({ frames := 5, cells := 0, slots := 0, locals := 113 }) (Pre0 dC dI cI cW [.ref (Bk 0), .int (nI k)] (tab cI X d r ++ (bk cW X Bk n ch pd pr yr Wd ++ R))) (vp_Si (fun z => z = countS d r n ch pd pr yr Wd k)) 0 0 (fun _ => False) := by
  refine Met.ofW (cc := cX0_tell) (maxL := 2) (ret := (some .int)) (by decide) rfl ?_
  intro p e s m args below meth c s₁ B hml hv
  obtain ⟨rfl, hP, hKK⟩ := hv
  have hx := B.exec
  have hb := B.bytes
  have hr := B.returns
  have hts := atoms_spec (ws := wsX0_tell) B.pre
  have hown : s.vm.findClass RX0 = some m.cls := findClass_of_methodNamed B.named
  have hlocks := B.notSynchronized
  have hl := lv_entry ([.ref (Bk 0), .int (nI k)]) (n := 2) (Nat.le_of_ble_eq_true rfl)
  rw [lg_entry_eq]
  generalize (lg_sl ([.ref (Bk 0), .int (nI k)]) ++ List.replicate (2 - (lg_sl ([.ref (Bk 0), .int (nI k)])).length) Slot.unset).toArray = ls at hl ⊢
  have hl : lv_has ls 2 [(0, .ref (Bk 0)), (1, .int (nI k))] := hl
  rcases (show k = 0 ∨ k = 1 ∨ k = 2 ∨ k = 3 ∨ k = 4 ∨ k = 5 ∨ k = 6 ∨ k = 7 ∨ k = 8 by omega) with rfl | rfl | rfl | rfl | rfl | rfl | rfl | rfl | rfl
  · refine lv_iload_n hx hb dX0_tell_0 rfl (lv_at hl 1 rfl) ?_
    refine lv_tableIn (tgt := 48) (off := 47) hx hb dX0_tell_1 (by decide) (by decide) rfl (by decide) ?_
    refine lv_aload_n hx hb dX0_tell_48 rfl (lv_at hl 0 rfl) ?_
    refine va_get (D := (dC, dI)) (ci := 0) (v := .int yr) (C := RX0) (T := TX0) (N := 7) hx hb hts (by decide +kernel) hown hKK.1 hP 3 rfl rfl 6 (by decide) (hts (.fieldLink RX0 48 "WidowPennies$Book" "year" "I") (by decide +kernel)) (fun _ h9 => h9) rfl dX0_tell_49 ?_
    have hz : yr = countS d r n ch pd pr yr Wd 0 := rfl
    exact W.iret (v := yr) hx hb hr (fun t ht hW => ⟨_, rfl, hz, ht⟩) (fun q hq => absurd hq List.not_mem_nil) dX0_tell_52
  · refine lv_iload_n hx hb dX0_tell_0 rfl (lv_at hl 1 rfl) ?_
    refine lv_tableIn (tgt := 53) (off := 52) hx hb dX0_tell_1 (by decide) (by decide) rfl (by decide) ?_
    refine lv_aload_n hx hb dX0_tell_53 rfl (lv_at hl 0 rfl) ?_
    refine va_get (D := (dC, dI)) (ci := 0) (v := .int (nI n)) (C := RX0) (T := TX0) (N := 7) hx hb hts (by decide +kernel) hown hKK.1 hP 3 rfl rfl 2 (by decide) (hts (.fieldLink RX0 22 "WidowPennies$Book" "written" "I") (by decide +kernel)) (fun _ h9 => h9) rfl dX0_tell_54 ?_
    have hz : nI n = countS d r n ch pd pr yr Wd 1 := rfl
    exact W.iret (v := (nI n)) hx hb hr (fun t ht hW => ⟨_, rfl, hz, ht⟩) (fun q hq => absurd hq List.not_mem_nil) dX0_tell_57
  · refine lv_iload_n hx hb dX0_tell_0 rfl (lv_at hl 1 rfl) ?_
    refine lv_tableIn (tgt := 58) (off := 57) hx hb dX0_tell_1 (by decide) (by decide) rfl (by decide) ?_
    refine lv_aload_n hx hb dX0_tell_58 rfl (lv_at hl 0 rfl) ?_
    refine rd_i (runV0 (As := []) (rest := []) ⟨hx, hb, hml, hown, hts⟩ (met_X0_living l dC dI cI cW X Bk n ch pd pr yr Wd hn) (cwV 0 hts gX0_tell_X0_living rfl rfl rfl (by decide +kernel) ⟨Nat.le_of_ble_eq_true rfl, Nat.le_of_ble_eq_true rfl⟩) hKK (ws_left (ws_right hP)) 0 0 rfl rfl rfl hl.1 (Nat.le_of_ble_eq_true rfl) rfl dX0_tell_59 ⟨Nat.zero_le _, Nat.zero_le _⟩) (fun r_1 hr_1 => ?_)
    subst hr_1
    have hz : sm (alvF Wd) n = countS d r n ch pd pr yr Wd 2 := rfl
    exact W.iret (v := (sm (alvF Wd) n)) hx hb hr (fun t ht hW => ⟨_, rfl, hz, ht⟩) (fun q hq => absurd hq List.not_mem_nil) dX0_tell_62
  · refine lv_iload_n hx hb dX0_tell_0 rfl (lv_at hl 1 rfl) ?_
    refine lv_tableIn (tgt := 63) (off := 62) hx hb dX0_tell_1 (by decide) (by decide) rfl (by decide) ?_
    refine lv_aload_n hx hb dX0_tell_63 rfl (lv_at hl 0 rfl) ?_
    refine va_get (D := (dC, dI)) (ci := 0) (v := .int ch) (C := RX0) (T := TX0) (N := 7) hx hb hts (by decide +kernel) hown hKK.1 hP 3 rfl rfl 3 (by decide) (hts (.fieldLink RX0 41 "WidowPennies$Book" "chest" "I") (by decide +kernel)) (fun _ h9 => h9) rfl dX0_tell_64 ?_
    have hz : ch = countS d r n ch pd pr yr Wd 3 := rfl
    exact W.iret (v := ch) hx hb hr (fun t ht hW => ⟨_, rfl, hz, ht⟩) (fun q hq => absurd hq List.not_mem_nil) dX0_tell_67
  · refine lv_iload_n hx hb dX0_tell_0 rfl (lv_at hl 1 rfl) ?_
    refine lv_tableIn (tgt := 68) (off := 67) hx hb dX0_tell_1 (by decide) (by decide) rfl (by decide) ?_
    refine lv_aload_n hx hb dX0_tell_68 rfl (lv_at hl 0 rfl) ?_
    refine lv_aload_n hx hb dX0_tell_69 rfl (lv_at hl 0 rfl) ?_
    refine va_get (D := (dC, dI)) (ci := 0) (v := .ref (X 1)) (C := RX0) (T := TX0) (N := 7) hx hb hts (by decide +kernel) hown hKK.1 hP 3 rfl rfl 0 (by decide) (hts (.fieldLink RX0 9 "WidowPennies$Book" "tables" "LWidowPennies$Tables;") (by decide +kernel)) (fun _ h9 => h9) rfl dX0_tell_70 ?_
    refine lv_iconst (v := 0) hx hb dX0_tell_73 (by decide) ?_
    refine rd_i (runV0 (As := [.int 0]) (rest := [.ref (Bk 0)]) ⟨hx, hb, hml, hown, hts⟩ (met_X1_rate l dC dI cI cW X d r 0 (by omega)) (cwV 1 hts gX0_tell_X1_rate rfl rfl rfl (by decide +kernel) ⟨Nat.le_of_ble_eq_true rfl, Nat.le_of_ble_eq_true rfl⟩) hKK (ws_left hP) 1 0 rfl rfl rfl hl.1 (Nat.le_of_ble_eq_true rfl) rfl dX0_tell_74 ⟨Nat.zero_le _, Nat.zero_le _⟩) (fun r_1 hr_1 => ?_)
    subst hr_1
    refine rd_i (runV0 (As := [.int (r 0)]) (rest := []) ⟨hx, hb, hml, hown, hts⟩ (met_X0_keptForAll l dC dI cI cW X Bk d r n ch pd pr yr Wd R hn hok (r 0) hi hi0) (cwV 1 hts gX0_tell_X0_keptForAll rfl rfl rfl (by decide +kernel) ⟨Nat.le_of_ble_eq_true rfl, Nat.le_of_ble_eq_true rfl⟩) hKK hP 0 3 rfl rfl rfl hl.1 (Nat.le_of_ble_eq_true rfl) rfl dX0_tell_77 ⟨Nat.zero_le _, Nat.zero_le _⟩) (fun r_2 hr_2 => ?_)
    subst hr_2
    have hz : sm (kptF d (r 0) Wd) n = countS d r n ch pd pr yr Wd 4 := rfl
    exact W.iret (v := (sm (kptF d (r 0) Wd) n)) hx hb hr (fun t ht hW => ⟨_, rfl, hz, ht⟩) (fun q hq => absurd hq List.not_mem_nil) dX0_tell_80
  · refine lv_iload_n hx hb dX0_tell_0 rfl (lv_at hl 1 rfl) ?_
    refine lv_tableIn (tgt := 81) (off := 80) hx hb dX0_tell_1 (by decide) (by decide) rfl (by decide) ?_
    refine lv_aload_n hx hb dX0_tell_81 rfl (lv_at hl 0 rfl) ?_
    refine va_get (D := (dC, dI)) (ci := 0) (v := .int ch) (C := RX0) (T := TX0) (N := 7) hx hb hts (by decide +kernel) hown hKK.1 hP 3 rfl rfl 3 (by decide) (hts (.fieldLink RX0 41 "WidowPennies$Book" "chest" "I") (by decide +kernel)) (fun _ h9 => h9) rfl dX0_tell_82 ?_
    refine lv_aload_n hx hb dX0_tell_85 rfl (lv_at hl 0 rfl) ?_
    refine lv_aload_n hx hb dX0_tell_86 rfl (lv_at hl 0 rfl) ?_
    refine va_get (D := (dC, dI)) (ci := 0) (v := .ref (X 1)) (C := RX0) (T := TX0) (N := 7) hx hb hts (by decide +kernel) hown hKK.1 hP 3 rfl rfl 0 (by decide) (hts (.fieldLink RX0 9 "WidowPennies$Book" "tables" "LWidowPennies$Tables;") (by decide +kernel)) (fun _ h9 => h9) rfl dX0_tell_87 ?_
    refine lv_iconst (v := 0) hx hb dX0_tell_90 (by decide) ?_
    refine rd_i (runV0 (As := [.int 0]) (rest := [.ref (Bk 0), .int ch]) ⟨hx, hb, hml, hown, hts⟩ (met_X1_rate l dC dI cI cW X d r 0 (by omega)) (cwV 1 hts gX0_tell_X1_rate rfl rfl rfl (by decide +kernel) ⟨Nat.le_of_ble_eq_true rfl, Nat.le_of_ble_eq_true rfl⟩) hKK (ws_left hP) 1 0 rfl rfl rfl hl.1 (Nat.le_of_ble_eq_true rfl) rfl dX0_tell_91 ⟨Nat.zero_le _, Nat.zero_le _⟩) (fun r_1 hr_1 => ?_)
    subst hr_1
    refine rd_i (runV0 (As := [.int (r 0)]) (rest := [.int ch]) ⟨hx, hb, hml, hown, hts⟩ (met_X0_keptForAll l dC dI cI cW X Bk d r n ch pd pr yr Wd R hn hok (r 0) hi hi0) (cwV 1 hts gX0_tell_X0_keptForAll rfl rfl rfl (by decide +kernel) ⟨Nat.le_of_ble_eq_true rfl, Nat.le_of_ble_eq_true rfl⟩) hKK hP 0 3 rfl rfl rfl hl.1 (Nat.le_of_ble_eq_true rfl) rfl dX0_tell_94 ⟨Nat.zero_le _, Nat.zero_le _⟩) (fun r_2 hr_2 => ?_)
    subst hr_2
    refine lv_isub hx hb dX0_tell_97 ?_
    have hz : ch - (sm (kptF d (r 0) Wd) n) = countS d r n ch pd pr yr Wd 5 := rfl
    exact W.iret (v := (ch - (sm (kptF d (r 0) Wd) n))) hx hb hr (fun t ht hW => ⟨_, rfl, hz, ht⟩) (fun q hq => absurd hq List.not_mem_nil) dX0_tell_98
  · refine lv_iload_n hx hb dX0_tell_0 rfl (lv_at hl 1 rfl) ?_
    refine lv_tableIn (tgt := 99) (off := 98) hx hb dX0_tell_1 (by decide) (by decide) rfl (by decide) ?_
    refine lv_aload_n hx hb dX0_tell_99 rfl (lv_at hl 0 rfl) ?_
    refine rd_i (runV0 (As := []) (rest := []) ⟨hx, hb, hml, hown, hts⟩ (met_X0_sumsDue l dC dI cI cW X Bk n ch pd pr yr Wd hn) (cwV 0 hts gX0_tell_X0_sumsDue rfl rfl rfl (by decide +kernel) ⟨Nat.le_of_ble_eq_true rfl, Nat.le_of_ble_eq_true rfl⟩) hKK (ws_left (ws_right hP)) 0 0 rfl rfl rfl hl.1 (Nat.le_of_ble_eq_true rfl) rfl dX0_tell_100 ⟨Nat.zero_le _, Nat.zero_le _⟩) (fun r_1 hr_1 => ?_)
    subst hr_1
    have hz : sm (dueF Wd) n = countS d r n ch pd pr yr Wd 6 := rfl
    exact W.iret (v := (sm (dueF Wd) n)) hx hb hr (fun t ht hW => ⟨_, rfl, hz, ht⟩) (fun q hq => absurd hq List.not_mem_nil) dX0_tell_103
  · refine lv_iload_n hx hb dX0_tell_0 rfl (lv_at hl 1 rfl) ?_
    refine lv_tableIn (tgt := 104) (off := 103) hx hb dX0_tell_1 (by decide) (by decide) rfl (by decide) ?_
    refine lv_aload_n hx hb dX0_tell_104 rfl (lv_at hl 0 rfl) ?_
    refine va_get (D := (dC, dI)) (ci := 0) (v := .int pd) (C := RX0) (T := TX0) (N := 7) hx hb hts (by decide +kernel) hown hKK.1 hP 3 rfl rfl 4 (by decide) (hts (.fieldLink RX0 45 "WidowPennies$Book" "paidOut" "I") (by decide +kernel)) (fun _ h9 => h9) rfl dX0_tell_105 ?_
    have hz : pd = countS d r n ch pd pr yr Wd 7 := rfl
    exact W.iret (v := pd) hx hb hr (fun t ht hW => ⟨_, rfl, hz, ht⟩) (fun q hq => absurd hq List.not_mem_nil) dX0_tell_108
  · refine lv_iload_n hx hb dX0_tell_0 rfl (lv_at hl 1 rfl) ?_
    refine lv_tableOut (tgt := 109) hx hb dX0_tell_1 (by decide) (by decide) ?_
    refine lv_aload_n hx hb dX0_tell_109 rfl (lv_at hl 0 rfl) ?_
    refine va_get (D := (dC, dI)) (ci := 0) (v := .int pr) (C := RX0) (T := TX0) (N := 7) hx hb hts (by decide +kernel) hown hKK.1 hP 3 rfl rfl 5 (by decide) (hts (.fieldLink RX0 34 "WidowPennies$Book" "prices" "I") (by decide +kernel)) (fun _ h9 => h9) rfl dX0_tell_110 ?_
    have hz : pr = countS d r n ch pd pr yr Wd 8 := rfl
    exact W.iret (v := pr) hx hb hr (fun t ht hW => ⟨_, rfl, hz, ht⟩) (fun q hq => absurd hq List.not_mem_nil) dX0_tell_113
end
section
set_option maxHeartbeats 4000000 in
set_option maxRecDepth 100000 in
theorem met_X2_start (l : Launch) (dC : Nat → ClassId) (dI : Nat → Nat → Nat) (cI cW : ClassId) (ws : va_W) (q0 h0 : Nat) (f : Nat → Int32) (he0 : ws[q0]? = some (h0, .inr (2, row f))) (a s9 p9 c9 : Int32) (sz : Nat) : Met l yX2_start wsX2_start ({ frames := 0, cells := 0, slots := 0, locals := 0 }) (Pre1 dC dI cI cW [.ref h0, .int a, .int s9, .int p9, .int c9] ws sz) (Qv1 dC dI ws (ws.set q0 (h0, .inr (2, row (mkW a s9 p9 c9)))) sz) 0 0 (va_A ws sz) := by
  refine Met.ofW (cc := cX2_start) (maxL := 5) (ret := none) (by decide) rfl ?_
  intro p e s m args below meth c s₁ B hml hv
  obtain ⟨rfl, hsz, hP, hD0, hKK⟩ := hv
  subst hsz
  have hx := B.exec
  have hb := B.bytes
  have hr := B.returns
  have hts := atoms_spec (ws := wsX2_start) B.pre
  have hown : s.vm.findClass RX2 = some m.cls := findClass_of_methodNamed B.named
  have hlocks := B.notSynchronized
  have hD := hD0.self (sz := s.heap.size)
  generalize hAe : va_A ws s.heap.size = A at hD ⊢
  have hA : ∀ q : Nat, s.heap.size ≤ q → A q := fun q h => by rw [← hAe]; exact Or.inr h
  have hS : va_S A s.heap s.heap [] := va_S.rf
  have hl := lv_entry ([.ref h0, .int a, .int s9, .int p9, .int c9]) (n := 5) (Nat.le_of_ble_eq_true rfl)
  rw [lg_entry_eq]
  generalize (lg_sl ([.ref h0, .int a, .int s9, .int p9, .int c9]) ++ List.replicate (5 - (lg_sl ([.ref h0, .int a, .int s9, .int p9, .int c9])).length) Slot.unset).toArray = ls at hl ⊢
  have hl : lv_has ls 5 [(0, .ref h0), (1, .int a), (2, .int s9), (3, .int p9), (4, .int c9)] := hl
  refine lv_aload_n hx hb dX2_start_0 rfl (lv_at hl 0 rfl) ?_
  refine lv_iload_n hx hb dX2_start_1 rfl (lv_at hl 1 rfl) ?_
  refine va_put (D := (dC, dI)) (ci := 2) (v := .int a) (ty := .int) (C := RX2) (T := TX2) (N := 7) hx hb hts (by decide +kernel) tyX2 tyX2_ok nmX2 hown hKK.1 hP hD hS q0 he0 rfl 0 (by decide) (hts (.fieldLink RX2 22 "WidowPennies$Widow" "age" "I") (by decide +kernel)) (fun _ h9 => h9) rfl (by decide +kernel) rfl rfl (Nat.le_of_ble_eq_true rfl) dX2_start_2 (fun H locs hP hD hS => ?_)
  have hP : va_P (dC, dI) vwCl (ws.set q0 (h0, .inr (2, row (upd f 0 a)))) H := hP
  have hD : va_D A (ws.set q0 (h0, .inr (2, row (upd f 0 a)))) := hD
  refine lv_aload_n hx hb dX2_start_5 rfl (lv_at hl 0 rfl) ?_
  refine lv_iload_n hx hb dX2_start_6 rfl (lv_at hl 2 rfl) ?_
  refine va_put (D := (dC, dI)) (ci := 2) (v := .int s9) (ty := .int) (C := RX2) (T := TX2) (N := 7) hx hb hts (by decide +kernel) tyX2 tyX2_ok nmX2 hown hKK.1 hP hD hS q0 (set_at he0) rfl 1 (by decide) (hts (.fieldLink RX2 25 "WidowPennies$Widow" "sum" "I") (by decide +kernel)) (fun _ h9 => h9) rfl (by decide +kernel) rfl rfl (Nat.le_of_ble_eq_true rfl) dX2_start_7 (fun H locs hP hD hS => ?_)
  have hP : va_P (dC, dI) vwCl (ws.set q0 (h0, .inr (2, row (upd (upd f 0 a) 1 s9)))) H := by rw [List.set_set] at hP; exact hP
  have hD : va_D A (ws.set q0 (h0, .inr (2, row (upd (upd f 0 a) 1 s9)))) := by rw [List.set_set] at hD; exact hD
  refine lv_aload_n hx hb dX2_start_10 rfl (lv_at hl 0 rfl) ?_
  refine lv_iload_n hx hb dX2_start_11 rfl (lv_at hl 3 rfl) ?_
  refine va_put (D := (dC, dI)) (ci := 2) (v := .int p9) (ty := .int) (C := RX2) (T := TX2) (N := 7) hx hb hts (by decide +kernel) tyX2 tyX2_ok nmX2 hown hKK.1 hP hD hS q0 (set_at he0) rfl 2 (by decide) (hts (.fieldLink RX2 28 "WidowPennies$Widow" "wait" "I") (by decide +kernel)) (fun _ h9 => h9) rfl (by decide +kernel) rfl rfl (Nat.le_of_ble_eq_true rfl) dX2_start_12 (fun H locs hP hD hS => ?_)
  have hP : va_P (dC, dI) vwCl (ws.set q0 (h0, .inr (2, row (upd (upd (upd f 0 a) 1 s9) 2 p9)))) H := by rw [List.set_set] at hP; exact hP
  have hD : va_D A (ws.set q0 (h0, .inr (2, row (upd (upd (upd f 0 a) 1 s9) 2 p9)))) := by rw [List.set_set] at hD; exact hD
  refine lv_aload_n hx hb dX2_start_15 rfl (lv_at hl 0 rfl) ?_
  refine lv_iconst (v := 0) hx hb dX2_start_16 (by decide) ?_
  refine va_put (D := (dC, dI)) (ci := 2) (v := .int 0) (ty := .int) (C := RX2) (T := TX2) (N := 7) hx hb hts (by decide +kernel) tyX2 tyX2_ok nmX2 hown hKK.1 hP hD hS q0 (set_at he0) rfl 3 (by decide) (hts (.fieldLink RX2 19 "WidowPennies$Widow" "held" "I") (by decide +kernel)) (fun _ h9 => h9) rfl (by decide +kernel) rfl rfl (Nat.le_of_ble_eq_true rfl) dX2_start_17 (fun H locs hP hD hS => ?_)
  have hP : va_P (dC, dI) vwCl (ws.set q0 (h0, .inr (2, row (upd (upd (upd (upd f 0 a) 1 s9) 2 p9) 3 0)))) H := by rw [List.set_set] at hP; exact hP
  have hD : va_D A (ws.set q0 (h0, .inr (2, row (upd (upd (upd (upd f 0 a) 1 s9) 2 p9) 3 0)))) := by rw [List.set_set] at hD; exact hD
  refine lv_aload_n hx hb dX2_start_20 rfl (lv_at hl 0 rfl) ?_
  refine lv_iconst (v := 0) hx hb dX2_start_21 (by decide) ?_
  refine va_put (D := (dC, dI)) (ci := 2) (v := .int 0) (ty := .int) (C := RX2) (T := TX2) (N := 7) hx hb hts (by decide +kernel) tyX2 tyX2_ok nmX2 hown hKK.1 hP hD hS q0 (set_at he0) rfl 4 (by decide) (hts (.fieldLink RX2 9 "WidowPennies$Widow" "state" "I") (by decide +kernel)) (fun _ h9 => h9) rfl (by decide +kernel) rfl rfl (Nat.le_of_ble_eq_true rfl) dX2_start_22 (fun H locs hP hD hS => ?_)
  have hP : va_P (dC, dI) vwCl (ws.set q0 (h0, .inr (2, row (upd (upd (upd (upd (upd f 0 a) 1 s9) 2 p9) 3 0) 4 0)))) H := by rw [List.set_set] at hP; exact hP
  have hD : va_D A (ws.set q0 (h0, .inr (2, row (upd (upd (upd (upd (upd f 0 a) 1 s9) 2 p9) 3 0) 4 0)))) := by rw [List.set_set] at hD; exact hD
  refine lv_aload_n hx hb dX2_start_25 rfl (lv_at hl 0 rfl) ?_
  refine lv_iconst (v := 0) hx hb dX2_start_26 (by decide) ?_
  refine va_put (D := (dC, dI)) (ci := 2) (v := .int 0) (ty := .int) (C := RX2) (T := TX2) (N := 7) hx hb hts (by decide +kernel) tyX2 tyX2_ok nmX2 hown hKK.1 hP hD hS q0 (set_at he0) rfl 5 (by decide) (hts (.fieldLink RX2 31 "WidowPennies$Widow" "got" "I") (by decide +kernel)) (fun _ h9 => h9) rfl (by decide +kernel) rfl rfl (Nat.le_of_ble_eq_true rfl) dX2_start_27 (fun H locs hP hD hS => ?_)
  have hP : va_P (dC, dI) vwCl (ws.set q0 (h0, .inr (2, row (upd (upd (upd (upd (upd (upd f 0 a) 1 s9) 2 p9) 3 0) 4 0) 5 0)))) H := by rw [List.set_set] at hP; exact hP
  have hD : va_D A (ws.set q0 (h0, .inr (2, row (upd (upd (upd (upd (upd (upd f 0 a) 1 s9) 2 p9) 3 0) 4 0) 5 0)))) := by rw [List.set_set] at hD; exact hD
  refine lv_aload_n hx hb dX2_start_30 rfl (lv_at hl 0 rfl) ?_
  refine lv_iload hx hb dX2_start_31 (lv_at hl 4 rfl) ?_
  refine va_put (D := (dC, dI)) (ci := 2) (v := .int c9) (ty := .int) (C := RX2) (T := TX2) (N := 7) hx hb hts (by decide +kernel) tyX2 tyX2_ok nmX2 hown hKK.1 hP hD hS q0 (set_at he0) rfl 6 (by decide) (hts (.fieldLink RX2 34 "WidowPennies$Widow" "cost" "I") (by decide +kernel)) (fun _ h9 => h9) rfl (by decide +kernel) rfl rfl (Nat.le_of_ble_eq_true rfl) dX2_start_33 (fun H locs hP hD hS => ?_)
  have hP : va_P (dC, dI) vwCl (ws.set q0 (h0, .inr (2, row (upd (upd (upd (upd (upd (upd (upd f 0 a) 1 s9) 2 p9) 3 0) 4 0) 5 0) 6 c9)))) H := by rw [List.set_set] at hP; exact hP
  have hD : va_D A (ws.set q0 (h0, .inr (2, row (upd (upd (upd (upd (upd (upd (upd f 0 a) 1 s9) 2 p9) 3 0) 4 0) 5 0) 6 c9)))) := by rw [List.set_set] at hD; exact hD
  have hP9 : va_P (dC, dI) vwCl (ws.set q0 (h0, .inr (2, row (upd (upd (upd (upd (upd (upd (upd f 0 a) 1 s9) 2 p9) 3 0) 4 0) 5 0) 6 c9)))) _ := hP
  have hD9 : va_D A (ws.set q0 (h0, .inr (2, row (upd (upd (upd (upd (upd (upd (upd f 0 a) 1 s9) 2 p9) 3 0) 4 0) 5 0) 6 c9)))) := hD
  have eR : row (upd (upd (upd (upd (upd (upd (upd f 0 a) 1 s9) 2 p9) 3 0) 4 0) 5 0) 6 c9) = row (mkW a s9 p9 c9) := rfl
  rw [eR] at hP9 hD9
  exact W.vret hx hb hr (fun t ht hW => ⟨⟨(), rfl, trivial, by rw [ht]; exact hP9, by rw [hAe]; exact hD9⟩, by rw [hAe]; exact hS.F ht⟩) hS.2.2 dX2_start_36
set_option maxHeartbeats 4000000 in
set_option maxRecDepth 100000 in
theorem met_X2_copy (l : Launch) (dC : Nat → ClassId) (dI : Nat → Nat → Nat) (cI cW : ClassId) (ws : va_W) (q0 h0 : Nat) (f : Nat → Int32) (he0 : ws[q0]? = some (h0, .inr (2, row f))) (q1 h1 : Nat) (g : Nat → Int32) (he1 : ws[q1]? = some (h1, .inr (2, row g))) (hne : q0 ≠ q1) (sz : Nat) : Met l yX2_copy wsX2_copy ({ frames := 0, cells := 0, slots := 0, locals := 0 }) (Pre1 dC dI cI cW [.ref h0, .ref h1] ws sz) (Qv1 dC dI ws (ws.set q0 (h0, .inr (2, row g))) sz) 0 0 (va_A ws sz) := by
  refine Met.ofW (cc := cX2_copy) (maxL := 2) (ret := none) (by decide) rfl ?_
  intro p e s m args below meth c s₁ B hml hv
  obtain ⟨rfl, hsz, hP, hD0, hKK⟩ := hv
  subst hsz
  have hx := B.exec
  have hb := B.bytes
  have hr := B.returns
  have hts := atoms_spec (ws := wsX2_copy) B.pre
  have hown : s.vm.findClass RX2 = some m.cls := findClass_of_methodNamed B.named
  have hlocks := B.notSynchronized
  have hD := hD0.self (sz := s.heap.size)
  generalize hAe : va_A ws s.heap.size = A at hD ⊢
  have hA : ∀ q : Nat, s.heap.size ≤ q → A q := fun q h => by rw [← hAe]; exact Or.inr h
  have hS : va_S A s.heap s.heap [] := va_S.rf
  have hl := lv_entry ([.ref h0, .ref h1]) (n := 2) (Nat.le_of_ble_eq_true rfl)
  rw [lg_entry_eq]
  generalize (lg_sl ([.ref h0, .ref h1]) ++ List.replicate (2 - (lg_sl ([.ref h0, .ref h1])).length) Slot.unset).toArray = ls at hl ⊢
  have hl : lv_has ls 2 [(0, .ref h0), (1, .ref h1)] := hl
  have he1s : ∀ x, (ws.set q0 x)[q1]? = some (h1, .inr (2, row g)) := fun x => by rw [List.getElem?_set_ne hne]; exact he1
  refine lv_aload_n hx hb dX2_copy_0 rfl (lv_at hl 0 rfl) ?_
  refine lv_aload_n hx hb dX2_copy_1 rfl (lv_at hl 1 rfl) ?_
  refine va_get (D := (dC, dI)) (ci := 2) (v := .int (g 0)) (C := RX2) (T := TX2) (N := 7) hx hb hts (by decide +kernel) hown hKK.1 hP q1 he1 rfl 0 (by decide) (hts (.fieldLink RX2 22 "WidowPennies$Widow" "age" "I") (by decide +kernel)) (fun _ h9 => h9) rfl dX2_copy_2 ?_
  refine va_put (D := (dC, dI)) (ci := 2) (v := .int (g 0)) (ty := .int) (C := RX2) (T := TX2) (N := 7) hx hb hts (by decide +kernel) tyX2 tyX2_ok nmX2 hown hKK.1 hP hD hS q0 he0 rfl 0 (by decide) (hts (.fieldLink RX2 22 "WidowPennies$Widow" "age" "I") (by decide +kernel)) (fun _ h9 => h9) rfl (by decide +kernel) rfl rfl (Nat.le_of_ble_eq_true rfl) dX2_copy_5 (fun H locs hP hD hS => ?_)
  have hP : va_P (dC, dI) vwCl (ws.set q0 (h0, .inr (2, row (upd f 0 (g 0))))) H := hP
  have hD : va_D A (ws.set q0 (h0, .inr (2, row (upd f 0 (g 0))))) := hD
  refine lv_aload_n hx hb dX2_copy_8 rfl (lv_at hl 0 rfl) ?_
  refine lv_aload_n hx hb dX2_copy_9 rfl (lv_at hl 1 rfl) ?_
  refine va_get (D := (dC, dI)) (ci := 2) (v := .int (g 1)) (C := RX2) (T := TX2) (N := 7) hx hb hts (by decide +kernel) hown hKK.1 hP q1 (he1s _) rfl 1 (by decide) (hts (.fieldLink RX2 25 "WidowPennies$Widow" "sum" "I") (by decide +kernel)) (fun _ h9 => h9) rfl dX2_copy_10 ?_
  refine va_put (D := (dC, dI)) (ci := 2) (v := .int (g 1)) (ty := .int) (C := RX2) (T := TX2) (N := 7) hx hb hts (by decide +kernel) tyX2 tyX2_ok nmX2 hown hKK.1 hP hD hS q0 (set_at he0) rfl 1 (by decide) (hts (.fieldLink RX2 25 "WidowPennies$Widow" "sum" "I") (by decide +kernel)) (fun _ h9 => h9) rfl (by decide +kernel) rfl rfl (Nat.le_of_ble_eq_true rfl) dX2_copy_13 (fun H locs hP hD hS => ?_)
  have hP : va_P (dC, dI) vwCl (ws.set q0 (h0, .inr (2, row (upd (upd f 0 (g 0)) 1 (g 1))))) H := by rw [List.set_set] at hP; exact hP
  have hD : va_D A (ws.set q0 (h0, .inr (2, row (upd (upd f 0 (g 0)) 1 (g 1))))) := by rw [List.set_set] at hD; exact hD
  refine lv_aload_n hx hb dX2_copy_16 rfl (lv_at hl 0 rfl) ?_
  refine lv_aload_n hx hb dX2_copy_17 rfl (lv_at hl 1 rfl) ?_
  refine va_get (D := (dC, dI)) (ci := 2) (v := .int (g 2)) (C := RX2) (T := TX2) (N := 7) hx hb hts (by decide +kernel) hown hKK.1 hP q1 (he1s _) rfl 2 (by decide) (hts (.fieldLink RX2 28 "WidowPennies$Widow" "wait" "I") (by decide +kernel)) (fun _ h9 => h9) rfl dX2_copy_18 ?_
  refine va_put (D := (dC, dI)) (ci := 2) (v := .int (g 2)) (ty := .int) (C := RX2) (T := TX2) (N := 7) hx hb hts (by decide +kernel) tyX2 tyX2_ok nmX2 hown hKK.1 hP hD hS q0 (set_at he0) rfl 2 (by decide) (hts (.fieldLink RX2 28 "WidowPennies$Widow" "wait" "I") (by decide +kernel)) (fun _ h9 => h9) rfl (by decide +kernel) rfl rfl (Nat.le_of_ble_eq_true rfl) dX2_copy_21 (fun H locs hP hD hS => ?_)
  have hP : va_P (dC, dI) vwCl (ws.set q0 (h0, .inr (2, row (upd (upd (upd f 0 (g 0)) 1 (g 1)) 2 (g 2))))) H := by rw [List.set_set] at hP; exact hP
  have hD : va_D A (ws.set q0 (h0, .inr (2, row (upd (upd (upd f 0 (g 0)) 1 (g 1)) 2 (g 2))))) := by rw [List.set_set] at hD; exact hD
  refine lv_aload_n hx hb dX2_copy_24 rfl (lv_at hl 0 rfl) ?_
  refine lv_aload_n hx hb dX2_copy_25 rfl (lv_at hl 1 rfl) ?_
  refine va_get (D := (dC, dI)) (ci := 2) (v := .int (g 3)) (C := RX2) (T := TX2) (N := 7) hx hb hts (by decide +kernel) hown hKK.1 hP q1 (he1s _) rfl 3 (by decide) (hts (.fieldLink RX2 19 "WidowPennies$Widow" "held" "I") (by decide +kernel)) (fun _ h9 => h9) rfl dX2_copy_26 ?_
  refine va_put (D := (dC, dI)) (ci := 2) (v := .int (g 3)) (ty := .int) (C := RX2) (T := TX2) (N := 7) hx hb hts (by decide +kernel) tyX2 tyX2_ok nmX2 hown hKK.1 hP hD hS q0 (set_at he0) rfl 3 (by decide) (hts (.fieldLink RX2 19 "WidowPennies$Widow" "held" "I") (by decide +kernel)) (fun _ h9 => h9) rfl (by decide +kernel) rfl rfl (Nat.le_of_ble_eq_true rfl) dX2_copy_29 (fun H locs hP hD hS => ?_)
  have hP : va_P (dC, dI) vwCl (ws.set q0 (h0, .inr (2, row (upd (upd (upd (upd f 0 (g 0)) 1 (g 1)) 2 (g 2)) 3 (g 3))))) H := by rw [List.set_set] at hP; exact hP
  have hD : va_D A (ws.set q0 (h0, .inr (2, row (upd (upd (upd (upd f 0 (g 0)) 1 (g 1)) 2 (g 2)) 3 (g 3))))) := by rw [List.set_set] at hD; exact hD
  refine lv_aload_n hx hb dX2_copy_32 rfl (lv_at hl 0 rfl) ?_
  refine lv_aload_n hx hb dX2_copy_33 rfl (lv_at hl 1 rfl) ?_
  refine va_get (D := (dC, dI)) (ci := 2) (v := .int (g 4)) (C := RX2) (T := TX2) (N := 7) hx hb hts (by decide +kernel) hown hKK.1 hP q1 (he1s _) rfl 4 (by decide) (hts (.fieldLink RX2 9 "WidowPennies$Widow" "state" "I") (by decide +kernel)) (fun _ h9 => h9) rfl dX2_copy_34 ?_
  refine va_put (D := (dC, dI)) (ci := 2) (v := .int (g 4)) (ty := .int) (C := RX2) (T := TX2) (N := 7) hx hb hts (by decide +kernel) tyX2 tyX2_ok nmX2 hown hKK.1 hP hD hS q0 (set_at he0) rfl 4 (by decide) (hts (.fieldLink RX2 9 "WidowPennies$Widow" "state" "I") (by decide +kernel)) (fun _ h9 => h9) rfl (by decide +kernel) rfl rfl (Nat.le_of_ble_eq_true rfl) dX2_copy_37 (fun H locs hP hD hS => ?_)
  have hP : va_P (dC, dI) vwCl (ws.set q0 (h0, .inr (2, row (upd (upd (upd (upd (upd f 0 (g 0)) 1 (g 1)) 2 (g 2)) 3 (g 3)) 4 (g 4))))) H := by rw [List.set_set] at hP; exact hP
  have hD : va_D A (ws.set q0 (h0, .inr (2, row (upd (upd (upd (upd (upd f 0 (g 0)) 1 (g 1)) 2 (g 2)) 3 (g 3)) 4 (g 4))))) := by rw [List.set_set] at hD; exact hD
  refine lv_aload_n hx hb dX2_copy_40 rfl (lv_at hl 0 rfl) ?_
  refine lv_aload_n hx hb dX2_copy_41 rfl (lv_at hl 1 rfl) ?_
  refine va_get (D := (dC, dI)) (ci := 2) (v := .int (g 5)) (C := RX2) (T := TX2) (N := 7) hx hb hts (by decide +kernel) hown hKK.1 hP q1 (he1s _) rfl 5 (by decide) (hts (.fieldLink RX2 31 "WidowPennies$Widow" "got" "I") (by decide +kernel)) (fun _ h9 => h9) rfl dX2_copy_42 ?_
  refine va_put (D := (dC, dI)) (ci := 2) (v := .int (g 5)) (ty := .int) (C := RX2) (T := TX2) (N := 7) hx hb hts (by decide +kernel) tyX2 tyX2_ok nmX2 hown hKK.1 hP hD hS q0 (set_at he0) rfl 5 (by decide) (hts (.fieldLink RX2 31 "WidowPennies$Widow" "got" "I") (by decide +kernel)) (fun _ h9 => h9) rfl (by decide +kernel) rfl rfl (Nat.le_of_ble_eq_true rfl) dX2_copy_45 (fun H locs hP hD hS => ?_)
  have hP : va_P (dC, dI) vwCl (ws.set q0 (h0, .inr (2, row (upd (upd (upd (upd (upd (upd f 0 (g 0)) 1 (g 1)) 2 (g 2)) 3 (g 3)) 4 (g 4)) 5 (g 5))))) H := by rw [List.set_set] at hP; exact hP
  have hD : va_D A (ws.set q0 (h0, .inr (2, row (upd (upd (upd (upd (upd (upd f 0 (g 0)) 1 (g 1)) 2 (g 2)) 3 (g 3)) 4 (g 4)) 5 (g 5))))) := by rw [List.set_set] at hD; exact hD
  refine lv_aload_n hx hb dX2_copy_48 rfl (lv_at hl 0 rfl) ?_
  refine lv_aload_n hx hb dX2_copy_49 rfl (lv_at hl 1 rfl) ?_
  refine va_get (D := (dC, dI)) (ci := 2) (v := .int (g 6)) (C := RX2) (T := TX2) (N := 7) hx hb hts (by decide +kernel) hown hKK.1 hP q1 (he1s _) rfl 6 (by decide) (hts (.fieldLink RX2 34 "WidowPennies$Widow" "cost" "I") (by decide +kernel)) (fun _ h9 => h9) rfl dX2_copy_50 ?_
  refine va_put (D := (dC, dI)) (ci := 2) (v := .int (g 6)) (ty := .int) (C := RX2) (T := TX2) (N := 7) hx hb hts (by decide +kernel) tyX2 tyX2_ok nmX2 hown hKK.1 hP hD hS q0 (set_at he0) rfl 6 (by decide) (hts (.fieldLink RX2 34 "WidowPennies$Widow" "cost" "I") (by decide +kernel)) (fun _ h9 => h9) rfl (by decide +kernel) rfl rfl (Nat.le_of_ble_eq_true rfl) dX2_copy_53 (fun H locs hP hD hS => ?_)
  have hP : va_P (dC, dI) vwCl (ws.set q0 (h0, .inr (2, row (upd (upd (upd (upd (upd (upd (upd f 0 (g 0)) 1 (g 1)) 2 (g 2)) 3 (g 3)) 4 (g 4)) 5 (g 5)) 6 (g 6))))) H := by rw [List.set_set] at hP; exact hP
  have hD : va_D A (ws.set q0 (h0, .inr (2, row (upd (upd (upd (upd (upd (upd (upd f 0 (g 0)) 1 (g 1)) 2 (g 2)) 3 (g 3)) 4 (g 4)) 5 (g 5)) 6 (g 6))))) := by rw [List.set_set] at hD; exact hD
  have hP9 : va_P (dC, dI) vwCl (ws.set q0 (h0, .inr (2, row (upd (upd (upd (upd (upd (upd (upd f 0 (g 0)) 1 (g 1)) 2 (g 2)) 3 (g 3)) 4 (g 4)) 5 (g 5)) 6 (g 6))))) _ := hP
  have hD9 : va_D A (ws.set q0 (h0, .inr (2, row (upd (upd (upd (upd (upd (upd (upd f 0 (g 0)) 1 (g 1)) 2 (g 2)) 3 (g 3)) 4 (g 4)) 5 (g 5)) 6 (g 6))))) := hD
  have eR : row (upd (upd (upd (upd (upd (upd (upd f 0 (g 0)) 1 (g 1)) 2 (g 2)) 3 (g 3)) 4 (g 4)) 5 (g 5)) 6 (g 6)) = row (g) := rfl
  rw [eR] at hP9 hD9
  exact W.vret hx hb hr (fun t ht hW => ⟨⟨(), rfl, trivial, by rw [ht]; exact hP9, by rw [hAe]; exact hD9⟩, by rw [hAe]; exact hS.F ht⟩) hS.2.2 dX2_copy_56
set_option maxHeartbeats 4000000 in
set_option maxRecDepth 100000 in
theorem met_X2_liveYear (l : Launch) (dC : Nat → ClassId) (dI : Nat → Nat → Nat) (cI cW : ClassId) (ws : va_W) (q0 h0 : Nat) (f : Nat → Int32) (he0 : ws[q0]? = some (h0, .inr (2, row f))) (hok : okW f) (h4 : f 4 = 0) (sz : Nat) : Met l yX2_liveYear wsX2_liveYear ({ frames := 0, cells := 0, slots := 0, locals := 0 }) (Pre1 dC dI cI cW [.ref h0] ws sz) (Qi1 dC dI (fun z => z = (if f 2 = 0 then f 1 else 0)) ws (ws.set q0 (h0, .inr (2, row (yearW f)))) sz) 0 0 (va_A ws sz) := by
  refine Met.ofW (cc := cX2_liveYear) (maxL := 2) (ret := (some .int)) (by decide) rfl ?_
  intro p e s m args below meth c s₁ B hml hv
  obtain ⟨rfl, hsz, hP, hD0, hKK⟩ := hv
  subst hsz
  have hx := B.exec
  have hb := B.bytes
  have hr := B.returns
  have hts := atoms_spec (ws := wsX2_liveYear) B.pre
  have hown : s.vm.findClass RX2 = some m.cls := findClass_of_methodNamed B.named
  have hlocks := B.notSynchronized
  have hD := hD0.self (sz := s.heap.size)
  generalize hAe : va_A ws s.heap.size = A at hD ⊢
  have hA : ∀ q : Nat, s.heap.size ≤ q → A q := fun q h => by rw [← hAe]; exact Or.inr h
  have hS : va_S A s.heap s.heap [] := va_S.rf
  have hl := lv_entry ([.ref h0]) (n := 2) (Nat.le_of_ble_eq_true rfl)
  rw [lg_entry_eq]
  generalize (lg_sl ([.ref h0]) ++ List.replicate (2 - (lg_sl ([.ref h0])).length) Slot.unset).toArray = ls at hl ⊢
  have hl : lv_has ls 2 [(0, .ref h0)] := hl
  obtain ⟨⟨ka, hka, hka1, hka2⟩, ⟨kb, hkb, hkb1⟩, -⟩ := hok h4
  refine lv_aload_n hx hb dX2_liveYear_0 rfl (lv_at hl 0 rfl) ?_
  refine va_get (D := (dC, dI)) (ci := 2) (v := .int (f 2)) (C := RX2) (T := TX2) (N := 7) hx hb hts (by decide +kernel) hown hKK.1 hP q0 he0 rfl 2 (by decide) (hts (.fieldLink RX2 28 "WidowPennies$Widow" "wait" "I") (by decide +kernel)) (fun _ h9 => h9) rfl dX2_liveYear_1 ?_
  refine lv_if_ne (tgt := 14) hx hb dX2_liveYear_4 (by decide) (fun c_1 => ?_) (fun c_1 => ?_)
  · have hw : ¬ f 2 = 0 := c_1
    refine lv_iconst (v := 0) hx hb dX2_liveYear_14 (by decide) ?_
    refine lv_istore_n (lv' := [(1, .int 0), (0, .ref h0)]) hx hb dX2_liveYear_15 rfl hl (by decide) rfl (fun ls hl => ?_)
    refine lv_aload_n hx hb dX2_liveYear_16 rfl (lv_at hl 1 rfl) ?_
    refine va_get (D := (dC, dI)) (ci := 2) (v := .int (f 2)) (C := RX2) (T := TX2) (N := 7) hx hb hts (by decide +kernel) hown hKK.1 hP q0 he0 rfl 2 (by decide) (hts (.fieldLink RX2 28 "WidowPennies$Widow" "wait" "I") (by decide +kernel)) (fun _ h9 => h9) rfl dX2_liveYear_17 ?_
    refine lv_if_le (tgt := 33) hx hb dX2_liveYear_20 (by decide) (fun c_2 => ?_) (fun c_2 => ?_)
    · exact absurd (zero_le hkb hkb1 c_2) hw
    · refine lv_aload_n hx hb dX2_liveYear_23 rfl (lv_at hl 1 rfl) ?_
      refine lv_dup hx hb dX2_liveYear_24 rfl ?_
      refine va_get (D := (dC, dI)) (ci := 2) (v := .int (f 2)) (C := RX2) (T := TX2) (N := 7) hx hb hts (by decide +kernel) hown hKK.1 hP q0 he0 rfl 2 (by decide) (hts (.fieldLink RX2 28 "WidowPennies$Widow" "wait" "I") (by decide +kernel)) (fun _ h9 => h9) rfl dX2_liveYear_25 ?_
      refine lv_iconst (v := 1) hx hb dX2_liveYear_28 (by decide) ?_
      refine lv_isub hx hb dX2_liveYear_29 ?_
      refine va_put (D := (dC, dI)) (ci := 2) (v := .int ((f 2) - 1)) (ty := .int) (C := RX2) (T := TX2) (N := 7) hx hb hts (by decide +kernel) tyX2 tyX2_ok nmX2 hown hKK.1 hP hD hS q0 he0 rfl 2 (by decide) (hts (.fieldLink RX2 28 "WidowPennies$Widow" "wait" "I") (by decide +kernel)) (fun _ h9 => h9) rfl (by decide +kernel) rfl rfl (Nat.le_of_ble_eq_true rfl) dX2_liveYear_30 (fun H locs hP hD hS => ?_)
      have hP : va_P (dC, dI) vwCl (ws.set q0 (h0, .inr (2, row (upd f 2 ((f 2) - 1))))) H := hP
      have hD : va_D A (ws.set q0 (h0, .inr (2, row (upd f 2 ((f 2) - 1))))) := hD
      refine lv_aload_n hx hb dX2_liveYear_33 rfl (lv_at hl 1 rfl) ?_
      refine lv_dup hx hb dX2_liveYear_34 rfl ?_
      refine va_get (D := (dC, dI)) (ci := 2) (v := .int (f 5)) (C := RX2) (T := TX2) (N := 7) hx hb hts (by decide +kernel) hown hKK.1 hP q0 (set_at he0) rfl 5 (by decide) (hts (.fieldLink RX2 31 "WidowPennies$Widow" "got" "I") (by decide +kernel)) (fun _ h9 => h9) rfl dX2_liveYear_35 ?_
      refine lv_iload_n hx hb dX2_liveYear_38 rfl (lv_at hl 0 rfl) ?_
      refine lv_iadd hx hb dX2_liveYear_39 ?_
      refine va_put (D := (dC, dI)) (ci := 2) (v := .int ((f 5) + 0)) (ty := .int) (C := RX2) (T := TX2) (N := 7) hx hb hts (by decide +kernel) tyX2 tyX2_ok nmX2 hown hKK.1 hP hD hS q0 (set_at he0) rfl 5 (by decide) (hts (.fieldLink RX2 31 "WidowPennies$Widow" "got" "I") (by decide +kernel)) (fun _ h9 => h9) rfl (by decide +kernel) rfl rfl (Nat.le_of_ble_eq_true rfl) dX2_liveYear_40 (fun H locs hP hD hS => ?_)
      have hP : va_P (dC, dI) vwCl (ws.set q0 (h0, .inr (2, row (upd (upd f 2 ((f 2) - 1)) 5 ((f 5) + 0))))) H := by rw [List.set_set] at hP; exact hP
      have hD : va_D A (ws.set q0 (h0, .inr (2, row (upd (upd f 2 ((f 2) - 1)) 5 ((f 5) + 0))))) := by rw [List.set_set] at hD; exact hD
      refine lv_aload_n hx hb dX2_liveYear_43 rfl (lv_at hl 1 rfl) ?_
      refine lv_dup hx hb dX2_liveYear_44 rfl ?_
      refine va_get (D := (dC, dI)) (ci := 2) (v := .int (f 0)) (C := RX2) (T := TX2) (N := 7) hx hb hts (by decide +kernel) hown hKK.1 hP q0 (set_at he0) rfl 0 (by decide) (hts (.fieldLink RX2 22 "WidowPennies$Widow" "age" "I") (by decide +kernel)) (fun _ h9 => h9) rfl dX2_liveYear_45 ?_
      refine lv_iconst (v := 1) hx hb dX2_liveYear_48 (by decide) ?_
      refine lv_iadd hx hb dX2_liveYear_49 ?_
      refine va_put (D := (dC, dI)) (ci := 2) (v := .int ((f 0) + 1)) (ty := .int) (C := RX2) (T := TX2) (N := 7) hx hb hts (by decide +kernel) tyX2 tyX2_ok nmX2 hown hKK.1 hP hD hS q0 (set_at he0) rfl 0 (by decide) (hts (.fieldLink RX2 22 "WidowPennies$Widow" "age" "I") (by decide +kernel)) (fun _ h9 => h9) rfl (by decide +kernel) rfl rfl (Nat.le_of_ble_eq_true rfl) dX2_liveYear_50 (fun H locs hP hD hS => ?_)
      have hP : va_P (dC, dI) vwCl (ws.set q0 (h0, .inr (2, row (upd (upd (upd f 2 ((f 2) - 1)) 5 ((f 5) + 0)) 0 ((f 0) + 1))))) H := by rw [List.set_set] at hP; exact hP
      have hD : va_D A (ws.set q0 (h0, .inr (2, row (upd (upd (upd f 2 ((f 2) - 1)) 5 ((f 5) + 0)) 0 ((f 0) + 1))))) := by rw [List.set_set] at hD; exact hD
      refine lv_aload_n hx hb dX2_liveYear_53 rfl (lv_at hl 1 rfl) ?_
      refine lv_dup hx hb dX2_liveYear_54 rfl ?_
      refine va_get (D := (dC, dI)) (ci := 2) (v := .int (f 3)) (C := RX2) (T := TX2) (N := 7) hx hb hts (by decide +kernel) hown hKK.1 hP q0 (set_at he0) rfl 3 (by decide) (hts (.fieldLink RX2 19 "WidowPennies$Widow" "held" "I") (by decide +kernel)) (fun _ h9 => h9) rfl dX2_liveYear_55 ?_
      refine lv_iconst (v := 1) hx hb dX2_liveYear_58 (by decide) ?_
      refine lv_iadd hx hb dX2_liveYear_59 ?_
      refine va_put (D := (dC, dI)) (ci := 2) (v := .int ((f 3) + 1)) (ty := .int) (C := RX2) (T := TX2) (N := 7) hx hb hts (by decide +kernel) tyX2 tyX2_ok nmX2 hown hKK.1 hP hD hS q0 (set_at he0) rfl 3 (by decide) (hts (.fieldLink RX2 19 "WidowPennies$Widow" "held" "I") (by decide +kernel)) (fun _ h9 => h9) rfl (by decide +kernel) rfl rfl (Nat.le_of_ble_eq_true rfl) dX2_liveYear_60 (fun H locs hP hD hS => ?_)
      have hP : va_P (dC, dI) vwCl (ws.set q0 (h0, .inr (2, row (upd (upd (upd (upd f 2 ((f 2) - 1)) 5 ((f 5) + 0)) 0 ((f 0) + 1)) 3 ((f 3) + 1))))) H := by rw [List.set_set] at hP; exact hP
      have hD : va_D A (ws.set q0 (h0, .inr (2, row (upd (upd (upd (upd f 2 ((f 2) - 1)) 5 ((f 5) + 0)) 0 ((f 0) + 1)) 3 ((f 3) + 1))))) := by rw [List.set_set] at hD; exact hD
      refine lv_aload_n hx hb dX2_liveYear_63 rfl (lv_at hl 1 rfl) ?_
      refine va_get (D := (dC, dI)) (ci := 2) (v := .int ((f 0) + 1)) (C := RX2) (T := TX2) (N := 7) hx hb hts (by decide +kernel) hown hKK.1 hP q0 (set_at he0) rfl 0 (by decide) (hts (.fieldLink RX2 22 "WidowPennies$Widow" "age" "I") (by decide +kernel)) (fun _ h9 => h9) rfl dX2_liveYear_64 ?_
      refine lv_bipush (v := 99) hx hb dX2_liveYear_67 (by decide) ?_
      refine lv_icmp_le (tgt := 77) hx hb dX2_liveYear_69 (by decide) (fun c_3 => ?_) (fun c_3 => ?_)
      · have h99 : ¬ f 0 = 99 := ne_99 c_3
        refine lv_iload_n hx hb dX2_liveYear_77 rfl (lv_at hl 0 rfl) ?_
        have hP9 : va_P (dC, dI) vwCl (ws.set q0 (h0, .inr (2, row (upd (upd (upd (upd f 2 ((f 2) - 1)) 5 ((f 5) + 0)) 0 ((f 0) + 1)) 3 ((f 3) + 1))))) _ := hP
        have hD9 : va_D A (ws.set q0 (h0, .inr (2, row (upd (upd (upd (upd f 2 ((f 2) - 1)) 5 ((f 5) + 0)) 0 ((f 0) + 1)) 3 ((f 3) + 1))))) := hD
        have eR : row (upd (upd (upd (upd f 2 ((f 2) - 1)) 5 ((f 5) + 0)) 0 ((f 0) + 1)) 3 ((f 3) + 1)) = row (yearW f) := by simp [row, yearW, upd, hw, h99]
        rw [eR] at hP9 hD9
        have hz : 0 = (if f 2 = 0 then f 1 else 0) := by simp [hw, h99]
        exact W.iret (v := 0) hx hb hr (fun t ht hW => ⟨⟨_, (), rfl, hz, by rw [ht]; exact hP9, by rw [hAe]; exact hD9⟩, by rw [hAe]; exact hS.F ht⟩) hS.2.2 dX2_liveYear_78
      · have h99 : f 0 = 99 := is_99 hka hka2 c_3
        refine lv_aload_n hx hb dX2_liveYear_72 rfl (lv_at hl 1 rfl) ?_
        refine lv_iconst (v := 1) hx hb dX2_liveYear_73 (by decide) ?_
        refine va_put (D := (dC, dI)) (ci := 2) (v := .int 1) (ty := .int) (C := RX2) (T := TX2) (N := 7) hx hb hts (by decide +kernel) tyX2 tyX2_ok nmX2 hown hKK.1 hP hD hS q0 (set_at he0) rfl 4 (by decide) (hts (.fieldLink RX2 9 "WidowPennies$Widow" "state" "I") (by decide +kernel)) (fun _ h9 => h9) rfl (by decide +kernel) rfl rfl (Nat.le_of_ble_eq_true rfl) dX2_liveYear_74 (fun H locs hP hD hS => ?_)
        have hP : va_P (dC, dI) vwCl (ws.set q0 (h0, .inr (2, row (upd (upd (upd (upd (upd f 2 ((f 2) - 1)) 5 ((f 5) + 0)) 0 ((f 0) + 1)) 3 ((f 3) + 1)) 4 1)))) H := by rw [List.set_set] at hP; exact hP
        have hD : va_D A (ws.set q0 (h0, .inr (2, row (upd (upd (upd (upd (upd f 2 ((f 2) - 1)) 5 ((f 5) + 0)) 0 ((f 0) + 1)) 3 ((f 3) + 1)) 4 1)))) := by rw [List.set_set] at hD; exact hD
        refine lv_iload_n hx hb dX2_liveYear_77 rfl (lv_at hl 0 rfl) ?_
        have hP9 : va_P (dC, dI) vwCl (ws.set q0 (h0, .inr (2, row (upd (upd (upd (upd (upd f 2 ((f 2) - 1)) 5 ((f 5) + 0)) 0 ((f 0) + 1)) 3 ((f 3) + 1)) 4 1)))) _ := hP
        have hD9 : va_D A (ws.set q0 (h0, .inr (2, row (upd (upd (upd (upd (upd f 2 ((f 2) - 1)) 5 ((f 5) + 0)) 0 ((f 0) + 1)) 3 ((f 3) + 1)) 4 1)))) := hD
        have eR : row (upd (upd (upd (upd (upd f 2 ((f 2) - 1)) 5 ((f 5) + 0)) 0 ((f 0) + 1)) 3 ((f 3) + 1)) 4 1) = row (yearW f) := by simp [row, yearW, upd, hw, h99, h4]
        rw [eR] at hP9 hD9
        have hz : 0 = (if f 2 = 0 then f 1 else 0) := by simp [hw, h99, h4]
        exact W.iret (v := 0) hx hb hr (fun t ht hW => ⟨⟨_, (), rfl, hz, by rw [ht]; exact hP9, by rw [hAe]; exact hD9⟩, by rw [hAe]; exact hS.F ht⟩) hS.2.2 dX2_liveYear_78
  · have hw : f 2 = 0 := c_1
    refine lv_aload_n hx hb dX2_liveYear_7 rfl (lv_at hl 0 rfl) ?_
    refine va_get (D := (dC, dI)) (ci := 2) (v := .int (f 1)) (C := RX2) (T := TX2) (N := 7) hx hb hts (by decide +kernel) hown hKK.1 hP q0 he0 rfl 1 (by decide) (hts (.fieldLink RX2 25 "WidowPennies$Widow" "sum" "I") (by decide +kernel)) (fun _ h9 => h9) rfl dX2_liveYear_8 ?_
    refine lv_goto (tgt := 15) hx hb dX2_liveYear_11 (by decide) ?_
    refine lv_istore_n (lv' := [(1, .int (f 1)), (0, .ref h0)]) hx hb dX2_liveYear_15 rfl hl (by decide) rfl (fun ls hl => ?_)
    refine lv_aload_n hx hb dX2_liveYear_16 rfl (lv_at hl 1 rfl) ?_
    refine va_get (D := (dC, dI)) (ci := 2) (v := .int (f 2)) (C := RX2) (T := TX2) (N := 7) hx hb hts (by decide +kernel) hown hKK.1 hP q0 he0 rfl 2 (by decide) (hts (.fieldLink RX2 28 "WidowPennies$Widow" "wait" "I") (by decide +kernel)) (fun _ h9 => h9) rfl dX2_liveYear_17 ?_
    refine lv_if_le (tgt := 33) hx hb dX2_liveYear_20 (by decide) (fun c_4 => ?_) (fun c_4 => ?_)
    · refine lv_aload_n hx hb dX2_liveYear_33 rfl (lv_at hl 1 rfl) ?_
      refine lv_dup hx hb dX2_liveYear_34 rfl ?_
      refine va_get (D := (dC, dI)) (ci := 2) (v := .int (f 5)) (C := RX2) (T := TX2) (N := 7) hx hb hts (by decide +kernel) hown hKK.1 hP q0 he0 rfl 5 (by decide) (hts (.fieldLink RX2 31 "WidowPennies$Widow" "got" "I") (by decide +kernel)) (fun _ h9 => h9) rfl dX2_liveYear_35 ?_
      refine lv_iload_n hx hb dX2_liveYear_38 rfl (lv_at hl 0 rfl) ?_
      refine lv_iadd hx hb dX2_liveYear_39 ?_
      refine va_put (D := (dC, dI)) (ci := 2) (v := .int ((f 5) + (f 1))) (ty := .int) (C := RX2) (T := TX2) (N := 7) hx hb hts (by decide +kernel) tyX2 tyX2_ok nmX2 hown hKK.1 hP hD hS q0 he0 rfl 5 (by decide) (hts (.fieldLink RX2 31 "WidowPennies$Widow" "got" "I") (by decide +kernel)) (fun _ h9 => h9) rfl (by decide +kernel) rfl rfl (Nat.le_of_ble_eq_true rfl) dX2_liveYear_40 (fun H locs hP hD hS => ?_)
      have hP : va_P (dC, dI) vwCl (ws.set q0 (h0, .inr (2, row (upd f 5 ((f 5) + (f 1)))))) H := hP
      have hD : va_D A (ws.set q0 (h0, .inr (2, row (upd f 5 ((f 5) + (f 1)))))) := hD
      refine lv_aload_n hx hb dX2_liveYear_43 rfl (lv_at hl 1 rfl) ?_
      refine lv_dup hx hb dX2_liveYear_44 rfl ?_
      refine va_get (D := (dC, dI)) (ci := 2) (v := .int (f 0)) (C := RX2) (T := TX2) (N := 7) hx hb hts (by decide +kernel) hown hKK.1 hP q0 (set_at he0) rfl 0 (by decide) (hts (.fieldLink RX2 22 "WidowPennies$Widow" "age" "I") (by decide +kernel)) (fun _ h9 => h9) rfl dX2_liveYear_45 ?_
      refine lv_iconst (v := 1) hx hb dX2_liveYear_48 (by decide) ?_
      refine lv_iadd hx hb dX2_liveYear_49 ?_
      refine va_put (D := (dC, dI)) (ci := 2) (v := .int ((f 0) + 1)) (ty := .int) (C := RX2) (T := TX2) (N := 7) hx hb hts (by decide +kernel) tyX2 tyX2_ok nmX2 hown hKK.1 hP hD hS q0 (set_at he0) rfl 0 (by decide) (hts (.fieldLink RX2 22 "WidowPennies$Widow" "age" "I") (by decide +kernel)) (fun _ h9 => h9) rfl (by decide +kernel) rfl rfl (Nat.le_of_ble_eq_true rfl) dX2_liveYear_50 (fun H locs hP hD hS => ?_)
      have hP : va_P (dC, dI) vwCl (ws.set q0 (h0, .inr (2, row (upd (upd f 5 ((f 5) + (f 1))) 0 ((f 0) + 1))))) H := by rw [List.set_set] at hP; exact hP
      have hD : va_D A (ws.set q0 (h0, .inr (2, row (upd (upd f 5 ((f 5) + (f 1))) 0 ((f 0) + 1))))) := by rw [List.set_set] at hD; exact hD
      refine lv_aload_n hx hb dX2_liveYear_53 rfl (lv_at hl 1 rfl) ?_
      refine lv_dup hx hb dX2_liveYear_54 rfl ?_
      refine va_get (D := (dC, dI)) (ci := 2) (v := .int (f 3)) (C := RX2) (T := TX2) (N := 7) hx hb hts (by decide +kernel) hown hKK.1 hP q0 (set_at he0) rfl 3 (by decide) (hts (.fieldLink RX2 19 "WidowPennies$Widow" "held" "I") (by decide +kernel)) (fun _ h9 => h9) rfl dX2_liveYear_55 ?_
      refine lv_iconst (v := 1) hx hb dX2_liveYear_58 (by decide) ?_
      refine lv_iadd hx hb dX2_liveYear_59 ?_
      refine va_put (D := (dC, dI)) (ci := 2) (v := .int ((f 3) + 1)) (ty := .int) (C := RX2) (T := TX2) (N := 7) hx hb hts (by decide +kernel) tyX2 tyX2_ok nmX2 hown hKK.1 hP hD hS q0 (set_at he0) rfl 3 (by decide) (hts (.fieldLink RX2 19 "WidowPennies$Widow" "held" "I") (by decide +kernel)) (fun _ h9 => h9) rfl (by decide +kernel) rfl rfl (Nat.le_of_ble_eq_true rfl) dX2_liveYear_60 (fun H locs hP hD hS => ?_)
      have hP : va_P (dC, dI) vwCl (ws.set q0 (h0, .inr (2, row (upd (upd (upd f 5 ((f 5) + (f 1))) 0 ((f 0) + 1)) 3 ((f 3) + 1))))) H := by rw [List.set_set] at hP; exact hP
      have hD : va_D A (ws.set q0 (h0, .inr (2, row (upd (upd (upd f 5 ((f 5) + (f 1))) 0 ((f 0) + 1)) 3 ((f 3) + 1))))) := by rw [List.set_set] at hD; exact hD
      refine lv_aload_n hx hb dX2_liveYear_63 rfl (lv_at hl 1 rfl) ?_
      refine va_get (D := (dC, dI)) (ci := 2) (v := .int ((f 0) + 1)) (C := RX2) (T := TX2) (N := 7) hx hb hts (by decide +kernel) hown hKK.1 hP q0 (set_at he0) rfl 0 (by decide) (hts (.fieldLink RX2 22 "WidowPennies$Widow" "age" "I") (by decide +kernel)) (fun _ h9 => h9) rfl dX2_liveYear_64 ?_
      refine lv_bipush (v := 99) hx hb dX2_liveYear_67 (by decide) ?_
      refine lv_icmp_le (tgt := 77) hx hb dX2_liveYear_69 (by decide) (fun c_5 => ?_) (fun c_5 => ?_)
      · have h99 : ¬ f 0 = 99 := ne_99 c_5
        refine lv_iload_n hx hb dX2_liveYear_77 rfl (lv_at hl 0 rfl) ?_
        have hP9 : va_P (dC, dI) vwCl (ws.set q0 (h0, .inr (2, row (upd (upd (upd f 5 ((f 5) + (f 1))) 0 ((f 0) + 1)) 3 ((f 3) + 1))))) _ := hP
        have hD9 : va_D A (ws.set q0 (h0, .inr (2, row (upd (upd (upd f 5 ((f 5) + (f 1))) 0 ((f 0) + 1)) 3 ((f 3) + 1))))) := hD
        have eR : row (upd (upd (upd f 5 ((f 5) + (f 1))) 0 ((f 0) + 1)) 3 ((f 3) + 1)) = row (yearW f) := by simp [row, yearW, upd, hw, h99]
        rw [eR] at hP9 hD9
        have hz : f 1 = (if f 2 = 0 then f 1 else 0) := by simp [hw, h99]
        exact W.iret (v := (f 1)) hx hb hr (fun t ht hW => ⟨⟨_, (), rfl, hz, by rw [ht]; exact hP9, by rw [hAe]; exact hD9⟩, by rw [hAe]; exact hS.F ht⟩) hS.2.2 dX2_liveYear_78
      · have h99 : f 0 = 99 := is_99 hka hka2 c_5
        refine lv_aload_n hx hb dX2_liveYear_72 rfl (lv_at hl 1 rfl) ?_
        refine lv_iconst (v := 1) hx hb dX2_liveYear_73 (by decide) ?_
        refine va_put (D := (dC, dI)) (ci := 2) (v := .int 1) (ty := .int) (C := RX2) (T := TX2) (N := 7) hx hb hts (by decide +kernel) tyX2 tyX2_ok nmX2 hown hKK.1 hP hD hS q0 (set_at he0) rfl 4 (by decide) (hts (.fieldLink RX2 9 "WidowPennies$Widow" "state" "I") (by decide +kernel)) (fun _ h9 => h9) rfl (by decide +kernel) rfl rfl (Nat.le_of_ble_eq_true rfl) dX2_liveYear_74 (fun H locs hP hD hS => ?_)
        have hP : va_P (dC, dI) vwCl (ws.set q0 (h0, .inr (2, row (upd (upd (upd (upd f 5 ((f 5) + (f 1))) 0 ((f 0) + 1)) 3 ((f 3) + 1)) 4 1)))) H := by rw [List.set_set] at hP; exact hP
        have hD : va_D A (ws.set q0 (h0, .inr (2, row (upd (upd (upd (upd f 5 ((f 5) + (f 1))) 0 ((f 0) + 1)) 3 ((f 3) + 1)) 4 1)))) := by rw [List.set_set] at hD; exact hD
        refine lv_iload_n hx hb dX2_liveYear_77 rfl (lv_at hl 0 rfl) ?_
        have hP9 : va_P (dC, dI) vwCl (ws.set q0 (h0, .inr (2, row (upd (upd (upd (upd f 5 ((f 5) + (f 1))) 0 ((f 0) + 1)) 3 ((f 3) + 1)) 4 1)))) _ := hP
        have hD9 : va_D A (ws.set q0 (h0, .inr (2, row (upd (upd (upd (upd f 5 ((f 5) + (f 1))) 0 ((f 0) + 1)) 3 ((f 3) + 1)) 4 1)))) := hD
        have eR : row (upd (upd (upd (upd f 5 ((f 5) + (f 1))) 0 ((f 0) + 1)) 3 ((f 3) + 1)) 4 1) = row (yearW f) := by simp [row, yearW, upd, hw, h99, h4]
        rw [eR] at hP9 hD9
        have hz : f 1 = (if f 2 = 0 then f 1 else 0) := by simp [hw, h99, h4]
        exact W.iret (v := (f 1)) hx hb hr (fun t ht hW => ⟨⟨_, (), rfl, hz, by rw [ht]; exact hP9, by rw [hAe]; exact hD9⟩, by rw [hAe]; exact hS.F ht⟩) hS.2.2 dX2_liveYear_78
    · exact absurd (show f 2 ≤ 0 by rw [hw]; decide) c_4
set_option maxHeartbeats 4000000 in
set_option maxRecDepth 100000 in
theorem met_X0_takeIn (l : Launch) (dC : Nat → ClassId) (dI : Nat → Nat → Nat) (cI cW : ClassId) (X Bk : Nat → Nat) (d r : Nat → Int32) (n : Nat) (ch pd pr yr : Int32) (Wd : Nat → Nat → Int32) (R : va_W) (x : Int32) (sz : Nat) : Met l yX0_takeIn wsX0_takeIn ({ frames := 0, cells := 0, slots := 0, locals := 0 }) (Pre1 dC dI cI cW [.ref (Bk 0), .int x] (tab cI X d r ++ (bk cW X Bk n ch pd pr yr Wd ++ R)) sz) (Qv1 dC dI (tab cI X d r ++ (bk cW X Bk n ch pd pr yr Wd ++ R)) (tab cI X d r ++ (bk cW X Bk n (takeS ch x) pd pr yr Wd ++ R)) sz) 0 0 (va_A (tab cI X d r ++ (bk cW X Bk n ch pd pr yr Wd ++ R)) sz) := by
  refine Met.ofW (cc := cX0_takeIn) (maxL := 3) (ret := none) (by decide) rfl ?_
  intro p e s m args below meth c s₁ B hml hv
  obtain ⟨rfl, hsz, hP, hD0, hKK⟩ := hv
  subst hsz
  have hx := B.exec
  have hb := B.bytes
  have hr := B.returns
  have hts := atoms_spec (ws := wsX0_takeIn) B.pre
  have hown : s.vm.findClass RX0 = some m.cls := findClass_of_methodNamed B.named
  have hlocks := B.notSynchronized
  have hD := hD0.self (sz := s.heap.size)
  generalize hAe : va_A (tab cI X d r ++ (bk cW X Bk n ch pd pr yr Wd ++ R)) s.heap.size = A at hD ⊢
  have hA : ∀ q : Nat, s.heap.size ≤ q → A q := fun q h => by rw [← hAe]; exact Or.inr h
  have hS : va_S A s.heap s.heap [] := va_S.rf
  have hl := lv_entry ([.ref (Bk 0), .int x]) (n := 3) (Nat.le_of_ble_eq_true rfl)
  rw [lg_entry_eq]
  generalize (lg_sl ([.ref (Bk 0), .int x]) ++ List.replicate (3 - (lg_sl ([.ref (Bk 0), .int x])).length) Slot.unset).toArray = ls at hl ⊢
  have hl : lv_has ls 3 [(0, .ref (Bk 0)), (1, .int x)] := hl
  refine lv_aload_n hx hb dX0_takeIn_0 rfl (lv_at hl 0 rfl) ?_
  refine va_get (D := (dC, dI)) (ci := 0) (v := .int ch) (C := RX0) (T := TX0) (N := 7) hx hb hts (by decide +kernel) hown hKK.1 hP 3 rfl rfl 3 (by decide) (hts (.fieldLink RX0 41 "WidowPennies$Book" "chest" "I") (by decide +kernel)) (fun _ h9 => h9) rfl dX0_takeIn_1 ?_
  refine lv_iload_n hx hb dX0_takeIn_4 rfl (lv_at hl 1 rfl) ?_
  refine lv_iadd hx hb dX0_takeIn_5 ?_
  refine lv_istore_n (lv' := [(2, .int (ch + x)), (0, .ref (Bk 0)), (1, .int x)]) hx hb dX0_takeIn_6 rfl hl (by decide) rfl (fun ls hl => ?_)
  refine lv_aload_n hx hb dX0_takeIn_7 rfl (lv_at hl 1 rfl) ?_
  refine lv_iload_n hx hb dX0_takeIn_8 rfl (lv_at hl 0 rfl) ?_
  refine lv_ldc (v := 99999999) hx hb hown (hts (.constant RX0 44 99999999) (by decide +kernel)) dX0_takeIn_9 ?_
  refine lv_icmp_le (tgt := 19) hx hb dX0_takeIn_11 (by decide) (fun c_1 => ?_) (fun c_1 => ?_)
  · refine lv_iload_n hx hb dX0_takeIn_19 rfl (lv_at hl 0 rfl) ?_
    refine va_put (D := (dC, dI)) (ci := 0) (v := .int (ch + x)) (ty := .int) (C := RX0) (T := TX0) (N := 7) hx hb hts (by decide +kernel) tyX0 tyX0_ok nmX0 hown hKK.1 hP hD hS 3 rfl rfl 3 (by decide) (hts (.fieldLink RX0 41 "WidowPennies$Book" "chest" "I") (by decide +kernel)) (fun _ h9 => h9) rfl (by decide +kernel) rfl rfl (Nat.le_of_ble_eq_true rfl) dX0_takeIn_20 (fun H locs hP hD hS => ?_)
    have hP : va_P (dC, dI) vwCl (tab cI X d r ++ (bk cW X Bk n (ch + x) pd pr yr Wd ++ R)) H := hP
    have hD : va_D A (tab cI X d r ++ (bk cW X Bk n (ch + x) pd pr yr Wd ++ R)) := hD
    have hP9 : va_P (dC, dI) vwCl (tab cI X d r ++ (bk cW X Bk n (ch + x) pd pr yr Wd ++ R)) _ := hP
    have hD9 : va_D A (tab cI X d r ++ (bk cW X Bk n (ch + x) pd pr yr Wd ++ R)) := hD
    have e9 : ch + x = takeS ch x := by unfold takeS; rw [if_neg (Int32.not_lt.mpr c_1)]
    rw [e9] at hP9 hD9
    exact W.vret hx hb hr (fun t ht hW => ⟨⟨(), rfl, trivial, by rw [ht]; exact hP9, by rw [hAe]; exact hD9⟩, by rw [hAe]; exact hS.F ht⟩) hS.2.2 dX0_takeIn_23
  · refine lv_ldc (v := 99999999) hx hb hown (hts (.constant RX0 44 99999999) (by decide +kernel)) dX0_takeIn_14 ?_
    refine lv_goto (tgt := 20) hx hb dX0_takeIn_16 (by decide) ?_
    refine va_put (D := (dC, dI)) (ci := 0) (v := .int 99999999) (ty := .int) (C := RX0) (T := TX0) (N := 7) hx hb hts (by decide +kernel) tyX0 tyX0_ok nmX0 hown hKK.1 hP hD hS 3 rfl rfl 3 (by decide) (hts (.fieldLink RX0 41 "WidowPennies$Book" "chest" "I") (by decide +kernel)) (fun _ h9 => h9) rfl (by decide +kernel) rfl rfl (Nat.le_of_ble_eq_true rfl) dX0_takeIn_20 (fun H locs hP hD hS => ?_)
    have hP : va_P (dC, dI) vwCl (tab cI X d r ++ (bk cW X Bk n 99999999 pd pr yr Wd ++ R)) H := hP
    have hD : va_D A (tab cI X d r ++ (bk cW X Bk n 99999999 pd pr yr Wd ++ R)) := hD
    have hP9 : va_P (dC, dI) vwCl (tab cI X d r ++ (bk cW X Bk n 99999999 pd pr yr Wd ++ R)) _ := hP
    have hD9 : va_D A (tab cI X d r ++ (bk cW X Bk n 99999999 pd pr yr Wd ++ R)) := hD
    have e9 : 99999999 = takeS ch x := by unfold takeS; rw [if_pos (Int32.not_le.mp c_1)]
    rw [e9] at hP9 hD9
    exact W.vret hx hb hr (fun t ht hW => ⟨⟨(), rfl, trivial, by rw [ht]; exact hP9, by rw [hAe]; exact hD9⟩, by rw [hAe]; exact hS.F ht⟩) hS.2.2 dX0_takeIn_23
set_option maxHeartbeats 4000000 in
set_option maxRecDepth 100000 in
theorem met_X0_payOut (l : Launch) (dC : Nat → ClassId) (dI : Nat → Nat → Nat) (cI cW : ClassId) (X Bk : Nat → Nat) (d r : Nat → Int32) (n : Nat) (ch pd pr yr : Int32) (Wd : Nat → Nat → Int32) (R : va_W) (x : Int32) (sz : Nat) : Met l yX0_payOut wsX0_payOut ({ frames := 0, cells := 0, slots := 0, locals := 0 }) (Pre1 dC dI cI cW [.ref (Bk 0), .int x] (tab cI X d r ++ (bk cW X Bk n ch pd pr yr Wd ++ R)) sz) (Qv1 dC dI (tab cI X d r ++ (bk cW X Bk n ch pd pr yr Wd ++ R)) (tab cI X d r ++ (bk cW X Bk n (ch - x) (pd + x) pr yr Wd ++ R)) sz) 0 0 (va_A (tab cI X d r ++ (bk cW X Bk n ch pd pr yr Wd ++ R)) sz) := by
  refine Met.ofW (cc := cX0_payOut) (maxL := 2) (ret := none) (by decide) rfl ?_
  intro p e s m args below meth c s₁ B hml hv
  obtain ⟨rfl, hsz, hP, hD0, hKK⟩ := hv
  subst hsz
  have hx := B.exec
  have hb := B.bytes
  have hr := B.returns
  have hts := atoms_spec (ws := wsX0_payOut) B.pre
  have hown : s.vm.findClass RX0 = some m.cls := findClass_of_methodNamed B.named
  have hlocks := B.notSynchronized
  have hD := hD0.self (sz := s.heap.size)
  generalize hAe : va_A (tab cI X d r ++ (bk cW X Bk n ch pd pr yr Wd ++ R)) s.heap.size = A at hD ⊢
  have hA : ∀ q : Nat, s.heap.size ≤ q → A q := fun q h => by rw [← hAe]; exact Or.inr h
  have hS : va_S A s.heap s.heap [] := va_S.rf
  have hl := lv_entry ([.ref (Bk 0), .int x]) (n := 2) (Nat.le_of_ble_eq_true rfl)
  rw [lg_entry_eq]
  generalize (lg_sl ([.ref (Bk 0), .int x]) ++ List.replicate (2 - (lg_sl ([.ref (Bk 0), .int x])).length) Slot.unset).toArray = ls at hl ⊢
  have hl : lv_has ls 2 [(0, .ref (Bk 0)), (1, .int x)] := hl
  refine lv_aload_n hx hb dX0_payOut_0 rfl (lv_at hl 0 rfl) ?_
  refine lv_dup hx hb dX0_payOut_1 rfl ?_
  refine va_get (D := (dC, dI)) (ci := 0) (v := .int ch) (C := RX0) (T := TX0) (N := 7) hx hb hts (by decide +kernel) hown hKK.1 hP 3 rfl rfl 3 (by decide) (hts (.fieldLink RX0 41 "WidowPennies$Book" "chest" "I") (by decide +kernel)) (fun _ h9 => h9) rfl dX0_payOut_2 ?_
  refine lv_iload_n hx hb dX0_payOut_5 rfl (lv_at hl 1 rfl) ?_
  refine lv_isub hx hb dX0_payOut_6 ?_
  refine va_put (D := (dC, dI)) (ci := 0) (v := .int (ch - x)) (ty := .int) (C := RX0) (T := TX0) (N := 7) hx hb hts (by decide +kernel) tyX0 tyX0_ok nmX0 hown hKK.1 hP hD hS 3 rfl rfl 3 (by decide) (hts (.fieldLink RX0 41 "WidowPennies$Book" "chest" "I") (by decide +kernel)) (fun _ h9 => h9) rfl (by decide +kernel) rfl rfl (Nat.le_of_ble_eq_true rfl) dX0_payOut_7 (fun H locs hP hD hS => ?_)
  have hP : va_P (dC, dI) vwCl (tab cI X d r ++ (bk cW X Bk n (ch - x) pd pr yr Wd ++ R)) H := hP
  have hD : va_D A (tab cI X d r ++ (bk cW X Bk n (ch - x) pd pr yr Wd ++ R)) := hD
  refine lv_aload_n hx hb dX0_payOut_10 rfl (lv_at hl 0 rfl) ?_
  refine lv_dup hx hb dX0_payOut_11 rfl ?_
  refine va_get (D := (dC, dI)) (ci := 0) (v := .int pd) (C := RX0) (T := TX0) (N := 7) hx hb hts (by decide +kernel) hown hKK.1 hP 3 rfl rfl 4 (by decide) (hts (.fieldLink RX0 45 "WidowPennies$Book" "paidOut" "I") (by decide +kernel)) (fun _ h9 => h9) rfl dX0_payOut_12 ?_
  refine lv_iload_n hx hb dX0_payOut_15 rfl (lv_at hl 1 rfl) ?_
  refine lv_iadd hx hb dX0_payOut_16 ?_
  refine va_put (D := (dC, dI)) (ci := 0) (v := .int (pd + x)) (ty := .int) (C := RX0) (T := TX0) (N := 7) hx hb hts (by decide +kernel) tyX0 tyX0_ok nmX0 hown hKK.1 hP hD hS 3 rfl rfl 4 (by decide) (hts (.fieldLink RX0 45 "WidowPennies$Book" "paidOut" "I") (by decide +kernel)) (fun _ h9 => h9) rfl (by decide +kernel) rfl rfl (Nat.le_of_ble_eq_true rfl) dX0_payOut_17 (fun H locs hP hD hS => ?_)
  have hP : va_P (dC, dI) vwCl (tab cI X d r ++ (bk cW X Bk n (ch - x) (pd + x) pr yr Wd ++ R)) H := hP
  have hD : va_D A (tab cI X d r ++ (bk cW X Bk n (ch - x) (pd + x) pr yr Wd ++ R)) := hD
  have hP9 : va_P (dC, dI) vwCl (tab cI X d r ++ (bk cW X Bk n (ch - x) (pd + x) pr yr Wd ++ R)) _ := hP
  have hD9 : va_D A (tab cI X d r ++ (bk cW X Bk n (ch - x) (pd + x) pr yr Wd ++ R)) := hD
  exact W.vret hx hb hr (fun t ht hW => ⟨⟨(), rfl, trivial, by rw [ht]; exact hP9, by rw [hAe]; exact hD9⟩, by rw [hAe]; exact hS.F ht⟩) hS.2.2 dX0_payOut_20
set_option maxHeartbeats 4000000 in
set_option maxRecDepth 100000 in
theorem met_X0_write (l : Launch) (dC : Nat → ClassId) (dI : Nat → Nat → Nat) (cI cW : ClassId) (X Bk : Nat → Nat) (d r : Nat → Int32) (n : Nat) (ch pd pr yr : Int32) (Wd : Nat → Nat → Int32) (R : va_W) (hn10 : n < 10) (a s9 p9 c9 : Int32) (sz : Nat) : Met l yX0_write wsX0_write ({ frames := 1, cells := 0, slots := 0, locals := 24 }) (Pre1 dC dI cI cW [.ref (Bk 0), .int a, .int s9, .int p9, .int c9] (tab cI X d r ++ (bk cW X Bk n ch pd pr yr Wd ++ R)) sz) (Qi1 dC dI (fun z => z = nI n) (tab cI X d r ++ (bk cW X Bk n ch pd pr yr Wd ++ R)) (tab cI X d r ++ (bk cW X Bk (n + 1) (takeS ch c9) pd (pr + c9) yr (upW Wd n (mkW a s9 p9 c9)) ++ R)) sz) 0 0 (va_A (tab cI X d r ++ (bk cW X Bk n ch pd pr yr Wd ++ R)) sz) := by
  refine Met.ofW (cc := cX0_write) (maxL := 6) (ret := (some .int)) (by decide) rfl ?_
  intro p e s m args below meth c s₁ B hml hv
  obtain ⟨rfl, hsz, hP, hD0, hKK⟩ := hv
  subst hsz
  have hx := B.exec
  have hb := B.bytes
  have hr := B.returns
  have hts := atoms_spec (ws := wsX0_write) B.pre
  have hown : s.vm.findClass RX0 = some m.cls := findClass_of_methodNamed B.named
  have hlocks := B.notSynchronized
  have hD := hD0.self (sz := s.heap.size)
  generalize hAe : va_A (tab cI X d r ++ (bk cW X Bk n ch pd pr yr Wd ++ R)) s.heap.size = A at hD ⊢
  have hA : ∀ q : Nat, s.heap.size ≤ q → A q := fun q h => by rw [← hAe]; exact Or.inr h
  have hS : va_S A s.heap s.heap [] := va_S.rf
  have hl := lv_entry ([.ref (Bk 0), .int a, .int s9, .int p9, .int c9]) (n := 6) (Nat.le_of_ble_eq_true rfl)
  rw [lg_entry_eq]
  generalize (lg_sl ([.ref (Bk 0), .int a, .int s9, .int p9, .int c9]) ++ List.replicate (6 - (lg_sl ([.ref (Bk 0), .int a, .int s9, .int p9, .int c9])).length) Slot.unset).toArray = ls at hl ⊢
  have hl : lv_has ls 6 [(0, .ref (Bk 0)), (1, .int a), (2, .int s9), (3, .int p9), (4, .int c9)] := hl
  refine lv_aload_n hx hb dX0_write_0 rfl (lv_at hl 0 rfl) ?_
  refine va_get (D := (dC, dI)) (ci := 0) (v := .int (nI n)) (C := RX0) (T := TX0) (N := 7) hx hb hts (by decide +kernel) hown hKK.1 hP 3 rfl rfl 2 (by decide) (hts (.fieldLink RX0 22 "WidowPennies$Book" "written" "I") (by decide +kernel)) (fun _ h9 => h9) rfl dX0_write_1 ?_
  refine lv_istore (lv' := [(5, .int (nI n)), (0, .ref (Bk 0)), (1, .int a), (2, .int s9), (3, .int p9), (4, .int c9)]) hx hb dX0_write_4 hl (by decide) rfl (fun ls hl => ?_)
  refine lv_aload_n hx hb dX0_write_6 rfl (lv_at hl 1 rfl) ?_
  refine lv_iload hx hb dX0_write_7 (lv_at hl 0 rfl) ?_
  refine rd_r (runV0 (As := [.int (nI n)]) (rest := []) ⟨hx, hb, hml, hown, hts⟩ (met_X0_widowAt l dC dI cI cW X Bk n ch pd pr yr Wd n hn10) (cwV 1 hts gX0_write_X0_widowAt rfl rfl rfl (by decide +kernel) ⟨Nat.le_of_ble_eq_true rfl, Nat.le_of_ble_eq_true rfl⟩) hKK (ws_left (ws_right hP)) 0 0 rfl rfl rfl hl.1 (Nat.le_of_ble_eq_true rfl) rfl dX0_write_9 ⟨Nat.zero_le _, Nat.zero_le _⟩) (fun r_1 hr_1 => ?_)
  subst hr_1
  refine lv_iload_n hx hb dX0_write_12 rfl (lv_at hl 2 rfl) ?_
  refine lv_iload_n hx hb dX0_write_13 rfl (lv_at hl 3 rfl) ?_
  refine lv_iload_n hx hb dX0_write_14 rfl (lv_at hl 4 rfl) ?_
  refine lv_iload hx hb dX0_write_15 (lv_at hl 5 rfl) ?_
  refine wr_v (runV1 (As := [.int a, .int s9, .int p9, .int c9]) (rest := []) ⟨hx, hb, hml, hown, hts⟩ (met_X2_start l dC dI cI cW (tab cI X d r ++ (bk cW X Bk n ch pd pr yr Wd ++ R)) (n + 5) (Bk (n + 2)) (Wd n) (bw_at hn10) a s9 p9 c9 _) (cwV 4 hts gX0_write_X2_start rfl rfl rfl (by decide +kernel) ⟨Nat.le_of_ble_eq_true rfl, Nat.le_of_ble_eq_true rfl⟩) hKK hP hD 2 (n + 5) rfl (bw_at hn10) rfl hl.1 (Nat.le_of_ble_eq_true rfl) rfl dX0_write_17 ⟨Nat.zero_le _, Nat.zero_le _⟩) hD hS hA (fun H locs hP hD hS => ?_)
  have hP : va_P (dC, dI) vwCl (tab cI X d r ++ (bk cW X Bk n ch pd pr yr (upW Wd n (mkW a s9 p9 c9)) ++ R)) H := by rw [bw_set hn10] at hP; exact hP
  have hD : va_D A (tab cI X d r ++ (bk cW X Bk n ch pd pr yr (upW Wd n (mkW a s9 p9 c9)) ++ R)) := by rw [bw_set hn10] at hD; exact hD
  refine lv_aload_n hx hb dX0_write_20 rfl (lv_at hl 1 rfl) ?_
  refine lv_dup hx hb dX0_write_21 rfl ?_
  refine va_get (D := (dC, dI)) (ci := 0) (v := .int (nI n)) (C := RX0) (T := TX0) (N := 7) hx hb hts (by decide +kernel) hown hKK.1 hP 3 rfl rfl 2 (by decide) (hts (.fieldLink RX0 22 "WidowPennies$Book" "written" "I") (by decide +kernel)) (fun _ h9 => h9) rfl dX0_write_22 ?_
  refine lv_iconst (v := 1) hx hb dX0_write_25 (by decide) ?_
  refine lv_iadd hx hb dX0_write_26 ?_
  rw [show ((nI n) + 1 : Int32) = nI (n + 1) from nI_1 n]
  refine va_put (D := (dC, dI)) (ci := 0) (v := .int (nI (n + 1))) (ty := .int) (C := RX0) (T := TX0) (N := 7) hx hb hts (by decide +kernel) tyX0 tyX0_ok nmX0 hown hKK.1 hP hD hS 3 rfl rfl 2 (by decide) (hts (.fieldLink RX0 22 "WidowPennies$Book" "written" "I") (by decide +kernel)) (fun _ h9 => h9) rfl (by decide +kernel) rfl rfl (Nat.le_of_ble_eq_true rfl) dX0_write_27 (fun H locs hP hD hS => ?_)
  have hP : va_P (dC, dI) vwCl (tab cI X d r ++ (bk cW X Bk (n + 1) ch pd pr yr (upW Wd n (mkW a s9 p9 c9)) ++ R)) H := hP
  have hD : va_D A (tab cI X d r ++ (bk cW X Bk (n + 1) ch pd pr yr (upW Wd n (mkW a s9 p9 c9)) ++ R)) := hD
  refine lv_aload_n hx hb dX0_write_30 rfl (lv_at hl 1 rfl) ?_
  refine lv_dup hx hb dX0_write_31 rfl ?_
  refine va_get (D := (dC, dI)) (ci := 0) (v := .int pr) (C := RX0) (T := TX0) (N := 7) hx hb hts (by decide +kernel) hown hKK.1 hP 3 rfl rfl 5 (by decide) (hts (.fieldLink RX0 34 "WidowPennies$Book" "prices" "I") (by decide +kernel)) (fun _ h9 => h9) rfl dX0_write_32 ?_
  refine lv_iload hx hb dX0_write_35 (lv_at hl 5 rfl) ?_
  refine lv_iadd hx hb dX0_write_37 ?_
  refine va_put (D := (dC, dI)) (ci := 0) (v := .int (pr + c9)) (ty := .int) (C := RX0) (T := TX0) (N := 7) hx hb hts (by decide +kernel) tyX0 tyX0_ok nmX0 hown hKK.1 hP hD hS 3 rfl rfl 5 (by decide) (hts (.fieldLink RX0 34 "WidowPennies$Book" "prices" "I") (by decide +kernel)) (fun _ h9 => h9) rfl (by decide +kernel) rfl rfl (Nat.le_of_ble_eq_true rfl) dX0_write_38 (fun H locs hP hD hS => ?_)
  have hP : va_P (dC, dI) vwCl (tab cI X d r ++ (bk cW X Bk (n + 1) ch pd (pr + c9) yr (upW Wd n (mkW a s9 p9 c9)) ++ R)) H := hP
  have hD : va_D A (tab cI X d r ++ (bk cW X Bk (n + 1) ch pd (pr + c9) yr (upW Wd n (mkW a s9 p9 c9)) ++ R)) := hD
  refine lv_aload_n hx hb dX0_write_41 rfl (lv_at hl 1 rfl) ?_
  refine lv_iload hx hb dX0_write_42 (lv_at hl 5 rfl) ?_
  refine wr_v (runV1 (As := [.int c9]) (rest := []) ⟨hx, hb, hml, hown, hts⟩ (met_X0_takeIn l dC dI cI cW X Bk d r (n + 1) ch pd (pr + c9) yr (upW Wd n (mkW a s9 p9 c9)) R c9 _) (cwV 1 hts gX0_write_X0_takeIn rfl rfl rfl (by decide +kernel) ⟨Nat.le_of_ble_eq_true rfl, Nat.le_of_ble_eq_true rfl⟩) hKK hP hD 0 3 rfl rfl rfl hl.1 (Nat.le_of_ble_eq_true rfl) rfl dX0_write_44 ⟨Nat.zero_le _, Nat.zero_le _⟩) hD hS hA (fun H locs hP hD hS => ?_)
  have hP : va_P (dC, dI) vwCl (tab cI X d r ++ (bk cW X Bk (n + 1) (takeS ch c9) pd (pr + c9) yr (upW Wd n (mkW a s9 p9 c9)) ++ R)) H := hP
  have hD : va_D A (tab cI X d r ++ (bk cW X Bk (n + 1) (takeS ch c9) pd (pr + c9) yr (upW Wd n (mkW a s9 p9 c9)) ++ R)) := hD
  refine lv_iload hx hb dX0_write_47 (lv_at hl 0 rfl) ?_
  have hP9 : va_P (dC, dI) vwCl (tab cI X d r ++ (bk cW X Bk (n + 1) (takeS ch c9) pd (pr + c9) yr (upW Wd n (mkW a s9 p9 c9)) ++ R)) _ := hP
  have hD9 : va_D A (tab cI X d r ++ (bk cW X Bk (n + 1) (takeS ch c9) pd (pr + c9) yr (upW Wd n (mkW a s9 p9 c9)) ++ R)) := hD
  have hz : nI n = nI n := rfl
  exact W.iret (v := (nI n)) hx hb hr (fun t ht hW => ⟨⟨_, (), rfl, hz, by rw [ht]; exact hP9, by rw [hAe]; exact hD9⟩, by rw [hAe]; exact hS.F ht⟩) hS.2.2 dX0_write_49
set_option maxHeartbeats 4000000 in
set_option maxRecDepth 100000 in
theorem met_X0_passYear (l : Launch) (dC : Nat → ClassId) (dI : Nat → Nat → Nat) (cI cW : ClassId) (X Bk : Nat → Nat) (d r : Nat → Int32) (n : Nat) (ch pd pr yr : Int32) (Wd : Nat → Nat → Int32) (R : va_W) (hn : n ≤ 10) (hok : ∀ k, k < n → okW (Wd k)) (hi : ¬ (1000 : Int32) + r 0 = 0) (hi0 : ¬ r 0 < 0) (sz : Nat) : Met l yX0_passYear wsX0_passYear ({ frames := 1, cells := 0, slots := 0, locals := 22 }) (Pre1 dC dI cI cW [.ref (Bk 0)] (tab cI X d r ++ (bk cW X Bk n ch pd pr yr Wd ++ R)) sz) (Qv1 dC dI (tab cI X d r ++ (bk cW X Bk n ch pd pr yr Wd ++ R)) (tab cI X d r ++ (bk cW X Bk n (intS (r 0) ch - sm (dueF Wd) n) (pd + sm (dueF Wd) n) pr (yr + 1) (yW n Wd) ++ R)) sz) 0 0 (va_A (tab cI X d r ++ (bk cW X Bk n ch pd pr yr Wd ++ R)) sz) := by
  refine Met.ofW (cc := cX0_passYear) (maxL := 3) (ret := none) (by decide) rfl ?_
  intro p e s m args below meth c s₁ B hml hv
  obtain ⟨rfl, hsz, hP, hD0, hKK⟩ := hv
  subst hsz
  have hx := B.exec
  have hb := B.bytes
  have hr := B.returns
  have hts := atoms_spec (ws := wsX0_passYear) B.pre
  have hown : s.vm.findClass RX0 = some m.cls := findClass_of_methodNamed B.named
  have hlocks := B.notSynchronized
  have hD := hD0.self (sz := s.heap.size)
  generalize hAe : va_A (tab cI X d r ++ (bk cW X Bk n ch pd pr yr Wd ++ R)) s.heap.size = A at hD ⊢
  have hA : ∀ q : Nat, s.heap.size ≤ q → A q := fun q h => by rw [← hAe]; exact Or.inr h
  have hS : va_S A s.heap s.heap [] := va_S.rf
  have hl := lv_entry ([.ref (Bk 0)]) (n := 3) (Nat.le_of_ble_eq_true rfl)
  rw [lg_entry_eq]
  generalize (lg_sl ([.ref (Bk 0)]) ++ List.replicate (3 - (lg_sl ([.ref (Bk 0)])).length) Slot.unset).toArray = ls at hl ⊢
  have hl : lv_has ls 3 [(0, .ref (Bk 0))] := hl
  have key : ∀ (m9 j : Nat), j + m9 = n → ∀ (H : Heap) (locs : List Loc), va_P (dC, dI) vwCl (tab cI X d r ++ (bk cW X Bk n (intS (r 0) ch - sm (dueF Wd) j) (pd + sm (dueF Wd) j) pr yr (yW j Wd) ++ R)) H → va_D A (tab cI X d r ++ (bk cW X Bk n (intS (r 0) ch - sm (dueF Wd) j) (pd + sm (dueF Wd) j) pr yr (yW j Wd) ++ R)) → va_S A s.heap H locs → ∀ ls : Array Slot, lv_has ls 3 [(1, .int (nI j)), (0, .ref (Bk 0))] → W p l e (headSpec wsX0_passYear ({ frames := 1, cells := 0, slots := 0, locals := 22 })).room s m (([.ref (Bk 0)] : List Value).toArray) below meth c H locs 0 0 (MQ below (Qv1 dC dI (tab cI X d r ++ (bk cW X Bk n ch pd pr yr Wd ++ R)) (tab cI X d r ++ (bk cW X Bk n (intS (r 0) ch - sm (dueF Wd) n) (pd + sm (dueF Wd) n) pr (yr + 1) (yW n Wd) ++ R)) s.heap.size) ([.ref (Bk 0)] : List Value).toArray s 0 0 A) (F0 m 33 ls []) := by
    intro m9
    induction m9 with
    | zero =>
      intro j hj H locs hP hD hS ls hl
      have hjn : j = n := by omega
      subst hjn
      refine lv_iload_n hx hb dX0_passYear_33 rfl (lv_at hl 0 rfl) ?_
      refine lv_aload_n hx hb dX0_passYear_34 rfl (lv_at hl 1 rfl) ?_
      refine va_get (D := (dC, dI)) (ci := 0) (v := .int (nI j)) (C := RX0) (T := TX0) (N := 7) hx hb hts (by decide +kernel) hown hKK.1 hP 3 rfl rfl 2 (by decide) (hts (.fieldLink RX0 22 "WidowPennies$Book" "written" "I") (by decide +kernel)) (fun _ h9 => h9) rfl dX0_passYear_35 ?_
      refine lv_icmp_ge (tgt := 68) hx hb dX0_passYear_38 (by decide) (fun c_1 => ?_) (fun c_1 => ?_)
      · refine lv_aload_n hx hb dX0_passYear_68 rfl (lv_at hl 1 rfl) ?_
        refine lv_dup hx hb dX0_passYear_69 rfl ?_
        refine va_get (D := (dC, dI)) (ci := 0) (v := .int yr) (C := RX0) (T := TX0) (N := 7) hx hb hts (by decide +kernel) hown hKK.1 hP 3 rfl rfl 6 (by decide) (hts (.fieldLink RX0 48 "WidowPennies$Book" "year" "I") (by decide +kernel)) (fun _ h9 => h9) rfl dX0_passYear_70 ?_
        refine lv_iconst (v := 1) hx hb dX0_passYear_73 (by decide) ?_
        refine lv_iadd hx hb dX0_passYear_74 ?_
        refine va_put (D := (dC, dI)) (ci := 0) (v := .int (yr + 1)) (ty := .int) (C := RX0) (T := TX0) (N := 7) hx hb hts (by decide +kernel) tyX0 tyX0_ok nmX0 hown hKK.1 hP hD hS 3 rfl rfl 6 (by decide) (hts (.fieldLink RX0 48 "WidowPennies$Book" "year" "I") (by decide +kernel)) (fun _ h9 => h9) rfl (by decide +kernel) rfl rfl (Nat.le_of_ble_eq_true rfl) dX0_passYear_75 (fun H locs hP hD hS => ?_)
        have hP : va_P (dC, dI) vwCl (tab cI X d r ++ (bk cW X Bk j (intS (r 0) ch - sm (dueF Wd) j) (pd + sm (dueF Wd) j) pr (yr + 1) (yW j Wd) ++ R)) H := hP
        have hD : va_D A (tab cI X d r ++ (bk cW X Bk j (intS (r 0) ch - sm (dueF Wd) j) (pd + sm (dueF Wd) j) pr (yr + 1) (yW j Wd) ++ R)) := hD
        have hP9 : va_P (dC, dI) vwCl (tab cI X d r ++ (bk cW X Bk j (intS (r 0) ch - sm (dueF Wd) j) (pd + sm (dueF Wd) j) pr (yr + 1) (yW j Wd) ++ R)) _ := hP
        have hD9 : va_D A (tab cI X d r ++ (bk cW X Bk j (intS (r 0) ch - sm (dueF Wd) j) (pd + sm (dueF Wd) j) pr (yr + 1) (yW j Wd) ++ R)) := hD
        exact W.vret hx hb hr (fun t ht hW => ⟨⟨(), rfl, trivial, by rw [ht]; exact hP9, by rw [hAe]; exact hD9⟩, by rw [hAe]; exact hS.F ht⟩) hS.2.2 dX0_passYear_78
      · exact absurd (Int32.le_refl _) c_1
    | succ m9 ih =>
      intro j hj H locs hP hD hS ls hl
      have hj10 : j < 10 := by omega
      have hyj : yW j Wd j = Wd j := by simp [yW]
      refine lv_iload_n hx hb dX0_passYear_33 rfl (lv_at hl 0 rfl) ?_
      refine lv_aload_n hx hb dX0_passYear_34 rfl (lv_at hl 1 rfl) ?_
      refine va_get (D := (dC, dI)) (ci := 0) (v := .int (nI n)) (C := RX0) (T := TX0) (N := 7) hx hb hts (by decide +kernel) hown hKK.1 hP 3 rfl rfl 2 (by decide) (hts (.fieldLink RX0 22 "WidowPennies$Book" "written" "I") (by decide +kernel)) (fun _ h9 => h9) rfl dX0_passYear_35 ?_
      refine lv_icmp_ge (tgt := 68) hx hb dX0_passYear_38 (by decide) (fun c_1 => ?_) (fun c_1 => ?_)
      · exact absurd c_1 (fun q => absurd ((le_nI (by omega)).mp q) (by omega))
      · refine lv_aload_n hx hb dX0_passYear_41 rfl (lv_at hl 1 rfl) ?_
        refine lv_iload_n hx hb dX0_passYear_42 rfl (lv_at hl 0 rfl) ?_
        refine rd_r (runV0 (As := [.int (nI j)]) (rest := []) ⟨hx, hb, hml, hown, hts⟩ (met_X0_widowAt l dC dI cI cW X Bk n (intS (r 0) ch - sm (dueF Wd) j) (pd + sm (dueF Wd) j) pr yr (yW j Wd) j hj10) (cwV 1 hts gX0_passYear_X0_widowAt rfl rfl rfl (by decide +kernel) ⟨Nat.le_of_ble_eq_true rfl, Nat.le_of_ble_eq_true rfl⟩) hKK (ws_left (ws_right hP)) 0 0 rfl rfl rfl hl.1 (Nat.le_of_ble_eq_true rfl) rfl dX0_passYear_43 ⟨Nat.zero_le _, Nat.zero_le _⟩) (fun r_2 hr_2 => ?_)
        subst hr_2
        refine lv_astore_n (lv' := [(2, .ref (Bk (j + 2))), (1, .int (nI j)), (0, .ref (Bk 0))]) hx hb dX0_passYear_46 rfl hl (by decide) rfl (fun ls hl => ?_)
        refine lv_aload_n hx hb dX0_passYear_47 rfl (lv_at hl 0 rfl) ?_
        refine rd_i (runV0 (As := []) (rest := []) ⟨hx, hb, hml, hown, hts⟩ (met_X2_lives l dC dI cI cW (Bk (j + 2)) (yW j Wd j)) (cwV 0 hts gX0_passYear_X2_lives rfl rfl rfl (by decide +kernel) ⟨Nat.le_of_ble_eq_true rfl, Nat.le_of_ble_eq_true rfl⟩) hKK (ws_one hP (bw_at hj10)) 2 0 rfl rfl rfl hl.1 (Nat.le_of_ble_eq_true rfl) rfl dX0_passYear_48 ⟨Nat.zero_le _, Nat.zero_le _⟩) (fun r_3 hr_3 => ?_)
        subst hr_3
        refine lv_if_eq (tgt := 62) hx hb dX0_passYear_51 (by decide) (fun c_4 => ?_) (fun c_4 => ?_)
        · have bc_4 : ¬ ((yW j Wd j) 4 = 0) := b0.mp c_4
          have hno : ¬ Wd j 4 = 0 := by rw [hyj] at bc_4; exact bc_4
          refine lv_iinc (v := (nI (j + 1))) (lv' := [(1, .int (nI (j + 1))), (2, .ref (Bk (j + 2))), (0, .ref (Bk 0))]) hx hb dX0_passYear_62 hl (k := 1) rfl (nI_1 j) (by decide) rfl (fun ls hl => ?_)
          refine lv_goto (tgt := 33) hx hb dX0_passYear_65 (by decide) ?_
          have hP : va_P (dC, dI) vwCl (tab cI X d r ++ (bk cW X Bk n (intS (r 0) ch - sm (dueF Wd) (j + 1)) (pd + sm (dueF Wd) (j + 1)) pr yr (yW (j + 1) Wd) ++ R)) H := by rw [yW_no hno, due_no hno]; exact hP
          have hD : va_D A (tab cI X d r ++ (bk cW X Bk n (intS (r 0) ch - sm (dueF Wd) (j + 1)) (pd + sm (dueF Wd) (j + 1)) pr yr (yW (j + 1) Wd) ++ R)) := by rw [yW_no hno, due_no hno]; exact hD
          exact ih (j + 1) (by omega) H locs hP hD hS ls (lv_sub hl [0, 2] rfl)
        · have bc_4 : (yW j Wd j) 4 = 0 := b1.mp c_4
          have hal : Wd j 4 = 0 := by rw [hyj] at bc_4; exact bc_4
          refine lv_aload_n hx hb dX0_passYear_54 rfl (lv_at hl 2 rfl) ?_
          refine lv_aload_n hx hb dX0_passYear_55 rfl (lv_at hl 0 rfl) ?_
          refine wr_i (runV1 (As := []) (rest := [.ref (Bk 0)]) ⟨hx, hb, hml, hown, hts⟩ (met_X2_liveYear l dC dI cI cW (tab cI X d r ++ (bk cW X Bk n (intS (r 0) ch - sm (dueF Wd) j) (pd + sm (dueF Wd) j) pr yr (yW j Wd) ++ R)) (j + 5) (Bk (j + 2)) ((yW j Wd) j) (bw_at hj10) (hyj.symm ▸ hok j (by omega)) (hyj.symm ▸ hal) _) (cwV 0 hts gX0_passYear_X2_liveYear rfl rfl rfl (by decide +kernel) ⟨Nat.le_of_ble_eq_true rfl, Nat.le_of_ble_eq_true rfl⟩) hKK hP hD 2 (j + 5) rfl (bw_at hj10) rfl hl.1 (Nat.le_of_ble_eq_true rfl) rfl dX0_passYear_56 ⟨Nat.zero_le _, Nat.zero_le _⟩) hD hS hA (fun r_5 H locs hr_5 hP hD hS => ?_)
          subst hr_5
          have hP : va_P (dC, dI) vwCl (tab cI X d r ++ (bk cW X Bk n (intS (r 0) ch - sm (dueF Wd) j) (pd + sm (dueF Wd) j) pr yr (upW (yW j Wd) j (yearW ((yW j Wd) j))) ++ R)) H := by rw [bw_set hj10] at hP; exact hP
          have hD : va_D A (tab cI X d r ++ (bk cW X Bk n (intS (r 0) ch - sm (dueF Wd) j) (pd + sm (dueF Wd) j) pr yr (upW (yW j Wd) j (yearW ((yW j Wd) j))) ++ R)) := by rw [bw_set hj10] at hD; exact hD
          rw [hyj] at hP hD ⊢
          refine wr_v (runV1 (As := [.int (if (Wd j) 2 = 0 then (Wd j) 1 else 0)]) (rest := []) ⟨hx, hb, hml, hown, hts⟩ (met_X0_payOut l dC dI cI cW X Bk d r n (intS (r 0) ch - sm (dueF Wd) j) (pd + sm (dueF Wd) j) pr yr (upW (yW j Wd) j (yearW (Wd j))) R (if (Wd j) 2 = 0 then (Wd j) 1 else 0) _) (cwV 1 hts gX0_passYear_X0_payOut rfl rfl rfl (by decide +kernel) ⟨Nat.le_of_ble_eq_true rfl, Nat.le_of_ble_eq_true rfl⟩) hKK hP hD 0 3 rfl rfl rfl hl.1 (Nat.le_of_ble_eq_true rfl) rfl dX0_passYear_59 ⟨Nat.zero_le _, Nat.zero_le _⟩) hD hS hA (fun H locs hP hD hS => ?_)
          have hP : va_P (dC, dI) vwCl (tab cI X d r ++ (bk cW X Bk n ((intS (r 0) ch - sm (dueF Wd) j) - (if (Wd j) 2 = 0 then (Wd j) 1 else 0)) ((pd + sm (dueF Wd) j) + (if (Wd j) 2 = 0 then (Wd j) 1 else 0)) pr yr (upW (yW j Wd) j (yearW (Wd j))) ++ R)) H := hP
          have hD : va_D A (tab cI X d r ++ (bk cW X Bk n ((intS (r 0) ch - sm (dueF Wd) j) - (if (Wd j) 2 = 0 then (Wd j) 1 else 0)) ((pd + sm (dueF Wd) j) + (if (Wd j) 2 = 0 then (Wd j) 1 else 0)) pr yr (upW (yW j Wd) j (yearW (Wd j))) ++ R)) := hD
          refine lv_iinc (v := (nI (j + 1))) (lv' := [(1, .int (nI (j + 1))), (2, .ref (Bk (j + 2))), (0, .ref (Bk 0))]) hx hb dX0_passYear_62 hl (k := 1) rfl (nI_1 j) (by decide) rfl (fun ls hl => ?_)
          refine lv_goto (tgt := 33) hx hb dX0_passYear_65 (by decide) ?_
          have hP : va_P (dC, dI) vwCl (tab cI X d r ++ (bk cW X Bk n (intS (r 0) ch - sm (dueF Wd) (j + 1)) (pd + sm (dueF Wd) (j + 1)) pr yr (yW (j + 1) Wd) ++ R)) H := by rw [yW_yes hal, due_yes hal, ← i_assoc_sub, ← i_assoc_add]; exact hP
          have hD : va_D A (tab cI X d r ++ (bk cW X Bk n (intS (r 0) ch - sm (dueF Wd) (j + 1)) (pd + sm (dueF Wd) (j + 1)) pr yr (yW (j + 1) Wd) ++ R)) := by rw [yW_yes hal, due_yes hal, ← i_assoc_sub, ← i_assoc_add]; exact hD
          exact ih (j + 1) (by omega) H locs hP hD hS ls (lv_sub hl [0, 2] rfl)
  refine lv_aload_n hx hb dX0_passYear_0 rfl (lv_at hl 0 rfl) ?_
  refine va_get (D := (dC, dI)) (ci := 0) (v := .int ch) (C := RX0) (T := TX0) (N := 7) hx hb hts (by decide +kernel) hown hKK.1 hP 3 rfl rfl 3 (by decide) (hts (.fieldLink RX0 41 "WidowPennies$Book" "chest" "I") (by decide +kernel)) (fun _ h9 => h9) rfl dX0_passYear_1 ?_
  refine lv_if_le (tgt := 31) hx hb dX0_passYear_4 (by decide) (fun c_1 => ?_) (fun c_1 => ?_)
  · refine lv_iconst (v := 0) hx hb dX0_passYear_31 (by decide) ?_
    refine lv_istore_n (lv' := [(1, .int 0), (0, .ref (Bk 0))]) hx hb dX0_passYear_32 rfl hl (by decide) rfl (fun ls hl => ?_)
    have e1 : intS (r 0) ch = ch := by rw [intS, if_neg (Int32.not_lt.mpr c_1)]
    have hP : va_P (dC, dI) vwCl (tab cI X d r ++ (bk cW X Bk n (intS (r 0) ch - sm (dueF Wd) 0) (pd + sm (dueF Wd) 0) pr yr (yW 0 Wd) ++ R)) s.heap := by rw [yW_0, e1, sm, Int32.sub_zero, Int32.add_zero]; exact hP
    have hD : va_D A (tab cI X d r ++ (bk cW X Bk n (intS (r 0) ch - sm (dueF Wd) 0) (pd + sm (dueF Wd) 0) pr yr (yW 0 Wd) ++ R)) := by rw [yW_0, e1, sm, Int32.sub_zero, Int32.add_zero]; exact hD
    exact key n 0 (by omega) _ _ hP hD hS ls (lv_sub hl [0, 1] rfl)
  · refine lv_aload_n hx hb dX0_passYear_7 rfl (lv_at hl 0 rfl) ?_
    refine lv_aload_n hx hb dX0_passYear_8 rfl (lv_at hl 0 rfl) ?_
    refine va_get (D := (dC, dI)) (ci := 0) (v := .int ch) (C := RX0) (T := TX0) (N := 7) hx hb hts (by decide +kernel) hown hKK.1 hP 3 rfl rfl 3 (by decide) (hts (.fieldLink RX0 41 "WidowPennies$Book" "chest" "I") (by decide +kernel)) (fun _ h9 => h9) rfl dX0_passYear_9 ?_
    refine lv_i2l hx hb dX0_passYear_12 rfl ?_
    refine lv_aload_n hx hb dX0_passYear_13 rfl (lv_at hl 0 rfl) ?_
    refine va_get (D := (dC, dI)) (ci := 0) (v := .ref (X 1)) (C := RX0) (T := TX0) (N := 7) hx hb hts (by decide +kernel) hown hKK.1 hP 3 rfl rfl 0 (by decide) (hts (.fieldLink RX0 9 "WidowPennies$Book" "tables" "LWidowPennies$Tables;") (by decide +kernel)) (fun _ h9 => h9) rfl dX0_passYear_14 ?_
    refine lv_iconst (v := 0) hx hb dX0_passYear_17 (by decide) ?_
    refine rd_i (runV0 (As := [.int 0]) (rest := [.long ch.toInt64, .ref (Bk 0)]) ⟨hx, hb, hml, hown, hts⟩ (met_X1_rate l dC dI cI cW X d r 0 (by omega)) (cwV 1 hts gX0_passYear_X1_rate rfl rfl rfl (by decide +kernel) ⟨Nat.le_of_ble_eq_true rfl, Nat.le_of_ble_eq_true rfl⟩) hKK (ws_left hP) 1 0 rfl rfl rfl hl.1 (Nat.le_of_ble_eq_true rfl) rfl dX0_passYear_18 ⟨Nat.zero_le _, Nat.zero_le _⟩) (fun r_2 hr_2 => ?_)
    subst hr_2
    refine lv_i2l hx hb dX0_passYear_21 rfl ?_
    refine lv_lmul hx hb dX0_passYear_22 ?_
    refine lv_ldc2 (v := 1000) hx hb hown (hts (.constantLong RX0 64 1000) (by decide +kernel)) dX0_passYear_23 ?_
    refine lv_ldiv hx hb dX0_passYear_26 (by decide) ?_
    refine lv_l2i hx hb dX0_passYear_27 rfl ?_
    refine wr_v (runV1 (As := [.int (((ch.toInt64 * ((r 0).toInt64)) / 1000).toInt32)]) (rest := []) ⟨hx, hb, hml, hown, hts⟩ (met_X0_takeIn l dC dI cI cW X Bk d r n ch pd pr yr Wd R (((ch.toInt64 * ((r 0).toInt64)) / 1000).toInt32) _) (cwV 1 hts gX0_passYear_X0_takeIn rfl rfl rfl (by decide +kernel) ⟨Nat.le_of_ble_eq_true rfl, Nat.le_of_ble_eq_true rfl⟩) hKK hP hD 0 3 rfl rfl rfl hl.1 (Nat.le_of_ble_eq_true rfl) rfl dX0_passYear_28 ⟨Nat.zero_le _, Nat.zero_le _⟩) hD hS hA (fun H locs hP hD hS => ?_)
    have hP : va_P (dC, dI) vwCl (tab cI X d r ++ (bk cW X Bk n (takeS ch (((ch.toInt64 * ((r 0).toInt64)) / 1000).toInt32)) pd pr yr Wd ++ R)) H := hP
    have hD : va_D A (tab cI X d r ++ (bk cW X Bk n (takeS ch (((ch.toInt64 * ((r 0).toInt64)) / 1000).toInt32)) pd pr yr Wd ++ R)) := hD
    refine lv_iconst (v := 0) hx hb dX0_passYear_31 (by decide) ?_
    refine lv_istore_n (lv' := [(1, .int 0), (0, .ref (Bk 0))]) hx hb dX0_passYear_32 rfl hl (by decide) rfl (fun ls hl => ?_)
    have e1 : intS (r 0) ch = takeS ch (((ch.toInt64 * ((r 0).toInt64)) / 1000).toInt32) := by rw [intS, if_pos (Int32.not_le.mp c_1)]
    have hP : va_P (dC, dI) vwCl (tab cI X d r ++ (bk cW X Bk n (intS (r 0) ch - sm (dueF Wd) 0) (pd + sm (dueF Wd) 0) pr yr (yW 0 Wd) ++ R)) H := by rw [yW_0, e1, sm, Int32.sub_zero, Int32.add_zero]; exact hP
    have hD : va_D A (tab cI X d r ++ (bk cW X Bk n (intS (r 0) ch - sm (dueF Wd) 0) (pd + sm (dueF Wd) 0) pr yr (yW 0 Wd) ++ R)) := by rw [yW_0, e1, sm, Int32.sub_zero, Int32.add_zero]; exact hD
    exact key n 0 (by omega) _ _ hP hD hS ls (lv_sub hl [0, 1] rfl)
set_option maxHeartbeats 4000000 in
set_option maxRecDepth 100000 in
theorem met_X0_passYears (l : Launch) (dC : Nat → ClassId) (dI : Nat → Nat → Nat) (cI cW : ClassId) (X Bk : Nat → Nat) (d r : Nat → Int32) (n : Nat) (ch pd pr yr : Int32) (Wd : Nat → Nat → Int32) (R : va_W) (hn : n ≤ 10) (hok : ∀ k, k < n → okW (Wd k)) (hi : ¬ (1000 : Int32) + r 0 = 0) (hi0 : ¬ r 0 < 0) (y : Nat) (hy : y < 1000) (sz : Nat) : Met l yX0_passYears wsX0_passYears ({ frames := 2, cells := 0, slots := 0, locals := 44 }) (Pre1 dC dI cI cW [.ref (Bk 0), .int (nI y)] (tab cI X d r ++ (bk cW X Bk n ch pd pr yr Wd ++ R)) sz) (Qv1 dC dI (tab cI X d r ++ (bk cW X Bk n ch pd pr yr Wd ++ R)) (tab cI X d r ++ (bk cW X Bk n ((yIter (r 0) n y (ch, pd, yr, Wd)).1) ((yIter (r 0) n y (ch, pd, yr, Wd)).2.1) pr ((yIter (r 0) n y (ch, pd, yr, Wd)).2.2.1) ((yIter (r 0) n y (ch, pd, yr, Wd)).2.2.2) ++ R)) sz) 0 0 (va_A (tab cI X d r ++ (bk cW X Bk n ch pd pr yr Wd ++ R)) sz) := by
  refine Met.ofW (cc := cX0_passYears) (maxL := 3) (ret := none) (by decide) rfl ?_
  intro p e s m args below meth c s₁ B hml hv
  obtain ⟨rfl, hsz, hP, hD0, hKK⟩ := hv
  subst hsz
  have hx := B.exec
  have hb := B.bytes
  have hr := B.returns
  have hts := atoms_spec (ws := wsX0_passYears) B.pre
  have hown : s.vm.findClass RX0 = some m.cls := findClass_of_methodNamed B.named
  have hlocks := B.notSynchronized
  have hD := hD0.self (sz := s.heap.size)
  generalize hAe : va_A (tab cI X d r ++ (bk cW X Bk n ch pd pr yr Wd ++ R)) s.heap.size = A at hD ⊢
  have hA : ∀ q : Nat, s.heap.size ≤ q → A q := fun q h => by rw [← hAe]; exact Or.inr h
  have hS : va_S A s.heap s.heap [] := va_S.rf
  have hl := lv_entry ([.ref (Bk 0), .int (nI y)]) (n := 3) (Nat.le_of_ble_eq_true rfl)
  rw [lg_entry_eq]
  generalize (lg_sl ([.ref (Bk 0), .int (nI y)]) ++ List.replicate (3 - (lg_sl ([.ref (Bk 0), .int (nI y)])).length) Slot.unset).toArray = ls at hl ⊢
  have hl : lv_has ls 3 [(0, .ref (Bk 0)), (1, .int (nI y))] := hl
  have key : ∀ (m9 j : Nat), j + m9 = y → ∀ (H : Heap) (locs : List Loc), va_P (dC, dI) vwCl (tab cI X d r ++ (bk cW X Bk n ((yIter (r 0) n j (ch, pd, yr, Wd)).1) ((yIter (r 0) n j (ch, pd, yr, Wd)).2.1) pr ((yIter (r 0) n j (ch, pd, yr, Wd)).2.2.1) ((yIter (r 0) n j (ch, pd, yr, Wd)).2.2.2) ++ R)) H → va_D A (tab cI X d r ++ (bk cW X Bk n ((yIter (r 0) n j (ch, pd, yr, Wd)).1) ((yIter (r 0) n j (ch, pd, yr, Wd)).2.1) pr ((yIter (r 0) n j (ch, pd, yr, Wd)).2.2.1) ((yIter (r 0) n j (ch, pd, yr, Wd)).2.2.2) ++ R)) → va_S A s.heap H locs → ∀ ls : Array Slot, lv_has ls 3 [(2, .int (nI j)), (0, .ref (Bk 0)), (1, .int (nI y))] → W p l e (headSpec wsX0_passYears ({ frames := 2, cells := 0, slots := 0, locals := 44 })).room s m (([.ref (Bk 0), .int (nI y)] : List Value).toArray) below meth c H locs 0 0 (MQ below (Qv1 dC dI (tab cI X d r ++ (bk cW X Bk n ch pd pr yr Wd ++ R)) (tab cI X d r ++ (bk cW X Bk n ((yIter (r 0) n y (ch, pd, yr, Wd)).1) ((yIter (r 0) n y (ch, pd, yr, Wd)).2.1) pr ((yIter (r 0) n y (ch, pd, yr, Wd)).2.2.1) ((yIter (r 0) n y (ch, pd, yr, Wd)).2.2.2) ++ R)) s.heap.size) ([.ref (Bk 0), .int (nI y)] : List Value).toArray s 0 0 A) (F0 m 2 ls []) := by
    intro m9
    induction m9 with
    | zero =>
      intro j hj H locs hP hD hS ls hl
      have hjn : j = y := by omega
      subst hjn
      refine lv_iload_n hx hb dX0_passYears_2 rfl (lv_at hl 0 rfl) ?_
      refine lv_iload_n hx hb dX0_passYears_3 rfl (lv_at hl 2 rfl) ?_
      refine lv_icmp_ge (tgt := 17) hx hb dX0_passYears_4 (by decide) (fun c_1 => ?_) (fun c_1 => ?_)
      · have hP9 : va_P (dC, dI) vwCl (tab cI X d r ++ (bk cW X Bk n ((yIter (r 0) n j (ch, pd, yr, Wd)).1) ((yIter (r 0) n j (ch, pd, yr, Wd)).2.1) pr ((yIter (r 0) n j (ch, pd, yr, Wd)).2.2.1) ((yIter (r 0) n j (ch, pd, yr, Wd)).2.2.2) ++ R)) _ := hP
        have hD9 : va_D A (tab cI X d r ++ (bk cW X Bk n ((yIter (r 0) n j (ch, pd, yr, Wd)).1) ((yIter (r 0) n j (ch, pd, yr, Wd)).2.1) pr ((yIter (r 0) n j (ch, pd, yr, Wd)).2.2.1) ((yIter (r 0) n j (ch, pd, yr, Wd)).2.2.2) ++ R)) := hD
        exact W.vret hx hb hr (fun t ht hW => ⟨⟨(), rfl, trivial, by rw [ht]; exact hP9, by rw [hAe]; exact hD9⟩, by rw [hAe]; exact hS.F ht⟩) hS.2.2 dX0_passYears_17
      · exact absurd (Int32.le_refl _) c_1
    | succ m9 ih =>
      intro j hj H locs hP hD hS ls hl
      refine lv_iload_n hx hb dX0_passYears_2 rfl (lv_at hl 0 rfl) ?_
      refine lv_iload_n hx hb dX0_passYears_3 rfl (lv_at hl 2 rfl) ?_
      refine lv_icmp_ge (tgt := 17) hx hb dX0_passYears_4 (by decide) (fun c_1 => ?_) (fun c_1 => ?_)
      · exact absurd c_1 (fun q => absurd ((le_nI (by omega)).mp q) (by omega))
      · refine lv_aload_n hx hb dX0_passYears_7 rfl (lv_at hl 1 rfl) ?_
        refine wr_v (runV1 (As := []) (rest := []) ⟨hx, hb, hml, hown, hts⟩ (met_X0_passYear l dC dI cI cW X Bk d r n ((yIter (r 0) n j (ch, pd, yr, Wd)).1) ((yIter (r 0) n j (ch, pd, yr, Wd)).2.1) pr ((yIter (r 0) n j (ch, pd, yr, Wd)).2.2.1) ((yIter (r 0) n j (ch, pd, yr, Wd)).2.2.2) R hn (okW_iter (S := (ch, pd, yr, Wd)) hok j) hi hi0 _) (cwV 0 hts gX0_passYears_X0_passYear rfl rfl rfl (by decide +kernel) ⟨Nat.le_of_ble_eq_true rfl, Nat.le_of_ble_eq_true rfl⟩) hKK hP hD 0 3 rfl rfl rfl hl.1 (Nat.le_of_ble_eq_true rfl) rfl dX0_passYears_8 ⟨Nat.zero_le _, Nat.zero_le _⟩) hD hS hA (fun H locs hP hD hS => ?_)
        have hP : va_P (dC, dI) vwCl (tab cI X d r ++ (bk cW X Bk n (intS (r 0) ((yIter (r 0) n j (ch, pd, yr, Wd)).1) - sm (dueF ((yIter (r 0) n j (ch, pd, yr, Wd)).2.2.2)) n) (((yIter (r 0) n j (ch, pd, yr, Wd)).2.1) + sm (dueF ((yIter (r 0) n j (ch, pd, yr, Wd)).2.2.2)) n) pr (((yIter (r 0) n j (ch, pd, yr, Wd)).2.2.1) + 1) (yW n ((yIter (r 0) n j (ch, pd, yr, Wd)).2.2.2)) ++ R)) H := hP
        have hD : va_D A (tab cI X d r ++ (bk cW X Bk n (intS (r 0) ((yIter (r 0) n j (ch, pd, yr, Wd)).1) - sm (dueF ((yIter (r 0) n j (ch, pd, yr, Wd)).2.2.2)) n) (((yIter (r 0) n j (ch, pd, yr, Wd)).2.1) + sm (dueF ((yIter (r 0) n j (ch, pd, yr, Wd)).2.2.2)) n) pr (((yIter (r 0) n j (ch, pd, yr, Wd)).2.2.1) + 1) (yW n ((yIter (r 0) n j (ch, pd, yr, Wd)).2.2.2)) ++ R)) := hD
        refine lv_iinc (v := (nI (j + 1))) (lv' := [(2, .int (nI (j + 1))), (0, .ref (Bk 0)), (1, .int (nI y))]) hx hb dX0_passYears_11 hl (k := 0) rfl (nI_1 j) (by decide) rfl (fun ls hl => ?_)
        refine lv_goto (tgt := 2) hx hb dX0_passYears_14 (by decide) ?_
        exact ih (j + 1) (by omega) H locs hP hD hS ls (lv_sub hl [0, 1, 2] rfl)
  refine lv_iconst (v := 0) hx hb dX0_passYears_0 (by decide) ?_
  refine lv_istore_n (lv' := [(2, .int 0), (0, .ref (Bk 0)), (1, .int (nI y))]) hx hb dX0_passYears_1 rfl hl (by decide) rfl (fun ls hl => ?_)
  exact key y 0 (by omega) _ _ hP hD hS ls (lv_sub hl [0, 1, 2] rfl)
end
