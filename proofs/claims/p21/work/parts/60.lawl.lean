/-! the law's loop: what is the same all the way, and the facts that its checks ask for -/
def NEW (sz : Nat) : Nat → Prop := fun q => sz ≤ q
def LC (p : Program) (s : State) (m : MethodId) (meth : Method) (c : Code) (b L : Nat) (xs : Nat → Int32) (dC : Nat → ClassId) (dI : Nat → Nat → Nat) (cI cW cV : ClassId) : Prop :=
  p.tables.exec = Jvm.exec ∧ c.code = cL_law ∧ meth.sig.returnType = some .boolean ∧ c.maxLocals = 20 ∧ s.vm.findClass RL = some m.cls ∧ (∀ w ∈ wsL_law, w.before #[Value.ref b] s = true) ∧ meth.locks = false ∧ KS dC dI cI cW cV s ∧ va_X b L xs s s.heap ∧ b < s.heap.size ∧ L ≤ 260
def LOOP (p : Program) (l : Launch) (e : Env) (s : State) (m : MethodId) (below : List Frame) (meth : Method) (c : Code) (b : Nat) (dC : Nat → ClassId) (dI : Nat → Nat → Nat) (cI cW cV : ClassId) (X Bk Br Y : Nat → Nat) (t : Nat) : Prop :=
  ∀ (u : GS), GI (60 + 2 * t) u → ∀ (H : Heap) (locs : List Loc), va_P (dC, dI) vwCl (gW cI cW cV X Bk Br Y [] u) H → va_D (NEW s.heap.size) (gW cI cW cV X Bk Br Y [] u) → va_S (NEW s.heap.size) s.heap H locs →
    ∀ ls : Array Slot, lv_has ls 20 [(3, .int (nI t)), (0, .ref b), (1, .ref (X 0)), (2, .ref (Y 0))] → W p l e room_1 s m #[Value.ref b] below meth c H locs (130 + 8 * t) (1124 + 74 * t) (lw_Z below #[Value.ref b] s) (F0 m 22 ls [])
/-- the first j places of a row hold f, the others 0 -/
def msk (f : Nat → Int32) (j : Nat) : Nat → Int32 := fun k => if k < j then f k else 0
theorem msk_0 (f : Nat → Int32) : msk f 0 = fun _ => 0 := by
  funext k
  simp [msk]
theorem msk_s (f : Nat → Int32) (j : Nat) : upd (msk f j) j (f j) = msk f (j + 1) := by
  funext k
  unfold upd msk
  by_cases h : k = j
  · subst h; simp
  · by_cases h2 : k < j
    · simp [h, h2, show k < j + 1 by omega]
    · simp [h, h2, show ¬ k < j + 1 by omega]
theorem msk_at (f : Nat → Int32) {j k : Nat} (h : k < j) : msk f j k = f k := by simp [msk, h]
theorem lg_self (x : Int64) : lg_cmp x x = 0 := by simp [lg_cmp]
/-- what is kept and what goes back, in whole numbers -/
theorem kb_M {i : Nat} {d r : Nat → Int32} {n : Nat} {ch pr : Int32} {Wd : Nat → Nat → Int32} (h : Inv i d r n ch pr Wd) {f : Nat → Int32} (hok : okW f) : ∃ K B : Nat, keptS d (r 0) f = nI K ∧ backS d r f = nI B ∧ B ≤ K ∧ K ≤ 49950 := by
  obtain ⟨⟨D, hD⟩, ⟨a, b, c, ⟨ha, ha2⟩, -, ⟨hc, hc2⟩⟩, -⟩ := h
  have hk := kM_le D a hok
  have ek : keptS d (r 0) f = nI (kM D a f) := by rw [ha]; exact kept_M hD ha2 hok
  have h3 : kM D a f * c ≤ 49950 * 50 := Nat.mul_le_mul hk hc2
  have h4 : kM D a f * c / 100 ≤ kM D a f := by
    refine Nat.div_le_of_le_mul ?_
    rw [Nat.mul_comm 100]
    exact Nat.mul_le_mul (Nat.le_refl _) (by omega)
  by_cases q : f 4 = 0 ∧ 2 ≤ f 3
  · refine ⟨kM D a f, kM D a f - kM D a f * c / 100, ek, ?_, by omega, hk⟩
    unfold backS
    rw [if_pos q, ek, hc, n_mul, show (100 : Int32) = nI 100 from rfl, n_div (by omega) (by omega) (by omega), n_sub h4]
  · refine ⟨kM D a f, 0, ek, ?_, Nat.zero_le _, hk⟩
    unfold backS
    rw [if_neg q]
    rfl
theorem kept_nn {i : Nat} {d r : Nat → Int32} {n : Nat} {ch pr : Int32} {Wd : Nat → Nat → Int32} (h : Inv i d r n ch pr Wd) {f : Nat → Int32} (hok : okW f) : ¬ keptS d (r 0) f < 0 := by
  obtain ⟨K, B, e1, e2, h1, h2⟩ := kb_M h hok
  rw [e1]; exact nI_pos (by omega)
theorem back_nn {i : Nat} {d r : Nat → Int32} {n : Nat} {ch pr : Int32} {Wd : Nat → Nat → Int32} (h : Inv i d r n ch pr Wd) {f : Nat → Int32} (hok : okW f) : ¬ backS d r f < 0 := by
  obtain ⟨K, B, e1, e2, h1, h2⟩ := kb_M h hok
  rw [e2]; exact nI_pos (by omega)
theorem back_le {i : Nat} {d r : Nat → Int32} {n : Nat} {ch pr : Int32} {Wd : Nat → Nat → Int32} (h : Inv i d r n ch pr Wd) {f : Nat → Int32} (hok : okW f) : backS d r f ≤ keptS d (r 0) f := by
  obtain ⟨K, B, e1, e2, h1, h2⟩ := kb_M h hok
  rw [e1, e2]; exact (le_nI (by omega)).mpr h1
theorem kept_0 {d r : Nat → Int32} {f : Nat → Int32} (h : ¬ f 4 = 0) : keptS d (r 0) f = 0 := by
  unfold keptS
  rw [if_neg h]
theorem back_0 {d r : Nat → Int32} {f : Nat → Int32} (h : ¬ 2 ≤ f 3) : backS d r f = 0 := by
  unfold backS
  rw [if_neg (fun q => h q.2)]
/-- what is kept for one who buys is no more than the price -/
theorem kept_le {i : Nat} {d r : Nat → Int32} {n : Nat} {ch pr : Int32} {Wd : Nat → Nat → Int32} (h : Inv i d r n ch pr Wd) {ka ks kb : Nat} (h1 : 50 ≤ ka) (h2 : ka ≤ 99) (hs : 1 ≤ ks) (hs2 : ks ≤ 999) (hb : kb ≤ 30) :
    keptS d (r 0) (mkW (nI ka) (nI ks) (nI kb) (priceS (r 1) (nI ks) (wN d (r 0) (100 - ka) kb))) ≤ priceS (r 1) (nI ks) (wN d (r 0) (100 - ka) kb) := by
  obtain ⟨⟨D, hD⟩, ⟨a, b, c, ⟨ha, ha2⟩, ⟨hb1, hb2⟩, -⟩, -⟩ := h
  have hw := wM_le D a (100 - ka) kb
  have hp := price_M hb2 hs2 (show wM D a (100 - ka) kb ≤ 50000 by omega)
  obtain ⟨g1, g2⟩ := pbase hs2 (show wM D a (100 - ka) kb ≤ 50000 by omega)
  have ew : wN d (r 0) (100 - ka) kb = nI (wM D a (100 - ka) kb) := by rw [ha]; exact wN_M hD ha2 _ _ (by omega)
  have ek : keptS d (r 0) (mkW (nI ka) (nI ks) (nI kb) (priceS (r 1) (nI ks) (wN d (r 0) (100 - ka) kb))) = nI (ks * wM D a (100 - ka) kb / 1000) := by
    unfold keptS
    show (if (0 : Int32) = 0 then nI ks * wN d (r 0) (100 - (nI ka).toNatClampNeg) (nI kb).toNatClampNeg / 1000 else 0) = _
    rw [if_pos rfl, clamp_nI (by omega), clamp_nI (by omega), ew, n_mul, show (1000 : Int32) = nI 1000 from rfl]
    exact n_div (by omega) (by omega) (by omega)
  rw [ek, ew, hb1, hp.1]
  refine (le_nI (by omega)).mpr ?_
  unfold pM
  by_cases z : wM D a (100 - ka) kb = 0
  · rw [if_pos z, z]; simp
  · rw [if_neg z]
    split <;> omega
theorem price_pos {r1 x w : Int32} (h : ¬ priceS r1 x w ≤ 0) : ¬ w = 0 := by
  intro q
  apply h
  unfold priceS
  rw [if_pos q]
  exact Int32.le_refl _
/-- the chest behind a price, as a long -/
theorem take64 {ch x : Int32} (h1 : -2147483648 ≤ ch.toInt + x.toInt) (h2 : ch.toInt + x.toInt < 2147483648) : (if ch.toInt64 + x.toInt64 < 99999999 then ch.toInt64 + x.toInt64 else 99999999) = (takeS ch x).toInt64 := by
  have r1 := i_rng ch
  have r2 := i_rng x
  have e : (ch.toInt64 + x.toInt64).toInt = ch.toInt + x.toInt := by
    rw [l_add (by rw [Int32.toInt_toInt64, Int32.toInt_toInt64]; omega) (by rw [Int32.toInt_toInt64, Int32.toInt_toInt64]; omega), Int32.toInt_toInt64, Int32.toInt_toInt64]
  apply Int64.toInt_inj.mp
  rw [Int32.toInt_toInt64, take_toInt h1 h2]
  by_cases z : ch.toInt64 + x.toInt64 < (99999999 : Int64)
  · have z2 := z
    rw [l_lt, max_toInt64, e] at z2
    rw [if_pos z, e, if_neg (by omega)]
  · have z2 := z
    rw [l_lt, max_toInt64, e] at z2
    rw [if_neg z, max_toInt64]
    split <;> omega
theorem price_rng {i : Nat} {d r : Nat → Int32} {n : Nat} {ch pr : Int32} {Wd : Nat → Nat → Int32} (hi : i ≤ 512) (h : Inv i d r n ch pr Wd) {ka ks kb : Nat} (h1 : 50 ≤ ka) (h2 : ka ≤ 99) (hs2 : ks ≤ 999) :
    -2147483648 ≤ ch.toInt + (priceS (r 1) (nI ks) (wN d (r 0) (100 - ka) kb)).toInt ∧ ch.toInt + (priceS (r 1) (nI ks) (wN d (r 0) (100 - ka) kb)).toInt < 2147483648 := by
  obtain ⟨⟨D, hD⟩, ⟨a, b, c, ⟨ha, ha2⟩, ⟨hb1, hb2⟩, -⟩, -, -, -, h6, h7⟩ := h
  have hw := wM_le D a (100 - ka) kb
  have hp := price_M hb2 hs2 (show wM D a (100 - ka) kb ≤ 50000 by omega)
  have ew : wN d (r 0) (100 - ka) kb = nI (wM D a (100 - ka) kb) := by rw [ha]; exact wN_M hD ha2 _ _ (by omega)
  rw [ew, hb1, hp.1, nI_toInt (by omega)]
  omega
/-- a year: what each of them shows of it -/
theorem yr_got {n : Nat} {Wd : Nat → Nat → Int32} {k : Nat} (hk : k < n) : yW n Wd k 5 - Wd k 5 = dueF Wd k := by
  by_cases h4 : Wd k 4 = 0
  · simp only [yW, hk, h4, and_self, if_true, dueF, true_and]
    show (if Wd k 2 = 0 then Wd k 5 + Wd k 1 else Wd k 5) - Wd k 5 = _
    by_cases h2 : Wd k 2 = 0
    · rw [if_pos h2, if_pos h2, Int32.add_comm, Int32.add_sub_cancel]
    · rw [if_neg h2, if_neg h2, Int32.sub_self]
  · simp only [yW, h4, and_false, false_and, if_false, dueF]
    exact Int32.sub_self _
theorem yr_same {n : Nat} {Wd : Nat → Nat → Int32} {k : Nat} (h4 : ¬ Wd k 4 = 0) : yW n Wd k = Wd k := by
  simp [yW, h4]
theorem yr_alive {n : Nat} {Wd : Nat → Nat → Int32} {k : Nat} (hk : k < n) (h4 : Wd k 4 = 0) : yW n Wd k = yearW (Wd k) := by
  simp [yW, hk, h4]
theorem mx_0 {x : Int32} (h : 0 ≤ x) : (if (0 : Int32) < x - 0 then x - 0 else 0) = x := by
  rw [Int32.sub_zero]
  by_cases q : 0 < x
  · rw [if_pos q]
  · rw [if_neg q]
    exact Int32.le_antisymm h (Int32.not_lt.mp q)
theorem mx_1 {f : Nat → Int32} {b : Nat} (hb : f 2 = nI b) (hb1 : b ≤ 30) : (if (0 : Int32) < f 2 - 1 then f 2 - 1 else 0) = yearW f 2 := by
  show _ = (if f 2 = 0 then f 2 else f 2 - 1)
  by_cases z : b = 0
  · have e : f 2 = 0 := by rw [hb, z]; rfl
    rw [if_pos e, e, if_neg (by decide)]
  · have e : ¬ f 2 = 0 := by rw [hb]; exact nI_ne0 (by omega) (by omega)
    rw [if_neg e, hb, show (1 : Int32) = nI 1 from rfl, n_sub (by omega)]
    by_cases q : (0 : Int32) < nI (b - 1)
    · rw [if_pos q]
    · rw [if_neg q]
      have h9 : ¬ 0 < b - 1 := fun z9 => q ((lt_nI (a := 0) (by omega)).mpr z9)
      rw [show b - 1 = 0 by omega]
      rfl
theorem chest_le {i : Nat} (hi : i ≤ 512) {d r : Nat → Int32} {n : Nat} {ch pr : Int32} {Wd : Nat → Nat → Int32} (h : Inv i d r n ch pr Wd) : ¬ intS (r 0) ch - sm (dueF Wd) n < ch - sm (dueF Wd) n := by
  obtain ⟨-, ⟨a, b, c, ⟨ha, ha2⟩, -, -⟩, h3, h4, -, h6, h7⟩ := h
  obtain ⟨s, hs, es⟩ := due_N h4
  obtain ⟨-, h8, h9⟩ := int_at ha2 h6 (by omega)
  have e : (nI s).toInt = (s : Int) := nI_toInt (by omega)
  rw [ha, es, i_lt, i_sub (by rw [e]; omega) (by rw [e]; omega), i_sub (by rw [e]; omega) (by rw [e]; omega), e]
  omega
theorem chest_max {i : Nat} {d r : Nat → Int32} {n : Nat} {ch pr : Int32} {Wd : Nat → Nat → Int32} (h : Inv i d r n ch pr Wd) : ch ≤ 99999999 := by
  rw [i_le, max_toInt]
  exact h.2.2.2.2.2.1
theorem paid_1 (a b : Int32) : a + b - a = b := by
  rw [Int32.add_comm, Int32.add_sub_cancel]
theorem lw_locs9 {p : Program} {l : Launch} {e : Env} {R : Room} {s : State} {m : MethodId} {args : Array Value} {below : List Frame} {meth : Method} {c : Code} {H : Heap} {locs : List Loc} {cells slots : Nat} {Q : State → Prop} {g : JFrame} (hS : va_S (NEW s.heap.size) s.heap H locs) (k : W p l e R s m args below meth c H [] cells slots Q g) : W p l e R s m args below meth c H locs cells slots Q g := va_forget (fun q hq => hS.2.2 q hq) k
