/-! what holds between any two calls of the law's loop -/
def Inv (i : Nat) (d r : Nat → Int32) (n : Nat) (ch pr : Int32) (Wd : Nat → Nat → Int32) : Prop :=
  (∃ D, okD d D) ∧ (∃ a b c : Nat, (r 0 = nI a ∧ a ≤ 200) ∧ (r 1 = nI b ∧ b ≤ 50) ∧ r 2 = nI c ∧ c ≤ 50) ∧ n ≤ 10 ∧ (∀ k, k < n → okW (Wd k)) ∧ pr = sm (prcF Wd) n ∧ ch.toInt ≤ 99999999 ∧ -(600000 * (i : Int)) ≤ ch.toInt
theorem Inv.mono {i j : Nat} {d r : Nat → Int32} {n : Nat} {ch pr : Int32} {Wd : Nat → Nat → Int32} (hij : i ≤ j) (h : Inv i d r n ch pr Wd) : Inv j d r n ch pr Wd :=
  ⟨h.1, h.2.1, h.2.2.1, h.2.2.2.1, h.2.2.2.2.1, h.2.2.2.2.2.1, by have := h.2.2.2.2.2.2; omega⟩
theorem max_toInt : (99999999 : Int32).toInt = 99999999 := by decide
theorem max_toInt64 : (99999999 : Int64).toInt = 99999999 := by decide
theorem l_add {x y : Int64} (h1 : -9223372036854775808 ≤ x.toInt + y.toInt) (h2 : x.toInt + y.toInt < 9223372036854775808) : (x + y).toInt = x.toInt + y.toInt := by
  rw [Int64.toInt_add, Int.bmod_def]
  omega
theorem l_to32 {x : Int64} (h1 : -2147483648 ≤ x.toInt) (h2 : x.toInt < 2147483648) : x.toInt32.toInt = x.toInt := by
  rw [Int64.toInt_toInt32, Int.bmod_def]
  omega
theorem l_lt (a b : Int64) : a < b ↔ a.toInt < b.toInt := Int64.lt_iff_toInt_lt
theorem take_come {ch x : Int32} (h1 : -2147483648 ≤ ch.toInt + x.toInt) (h2 : ch.toInt + x.toInt < 2147483648) : takeS ch x = comeS ch x.toInt64 := by
  have r1 := i_rng ch
  have r2 := i_rng x
  have e : (ch.toInt64 + x.toInt64).toInt = ch.toInt + x.toInt := by
    rw [l_add (by rw [Int32.toInt_toInt64, Int32.toInt_toInt64]; omega) (by rw [Int32.toInt_toInt64, Int32.toInt_toInt64]; omega), Int32.toInt_toInt64, Int32.toInt_toInt64]
  have e2 := i_add h1 h2
  unfold takeS comeS
  by_cases q : (99999999 : Int32) < ch + x
  · have q2 := q
    rw [i_lt, max_toInt, e2] at q2
    rw [if_pos q, if_neg (fun z => by rw [l_lt, max_toInt64, e] at z; omega)]
    rfl
  · have q2 := q
    rw [i_lt, max_toInt, e2] at q2
    rw [if_neg q]
    by_cases z : ch.toInt64 + x.toInt64 < (99999999 : Int64)
    · rw [if_pos z, i_eq, e2, l_to32 (by rw [e]; omega) (by rw [e]; omega), e]
    · have z2 := z
      rw [l_lt, max_toInt64, e] at z2
      rw [if_neg z, i_eq, e2]
      show _ = (99999999 : Int64).toInt32.toInt
      rw [l_to32 (by rw [max_toInt64]; decide) (by rw [max_toInt64]; decide), max_toInt64]
      omega
theorem take_toInt {ch x : Int32} (h1 : -2147483648 ≤ ch.toInt + x.toInt) (h2 : ch.toInt + x.toInt < 2147483648) : (takeS ch x).toInt = if 99999999 < ch.toInt + x.toInt then 99999999 else ch.toInt + x.toInt := by
  have e2 := i_add h1 h2
  unfold takeS
  by_cases q : (99999999 : Int32) < ch + x
  · have q2 := q
    rw [i_lt, max_toInt, e2] at q2
    rw [if_pos q, if_pos q2, max_toInt]
  · have q2 := q
    rw [i_lt, max_toInt, e2] at q2
    rw [if_neg q, if_neg q2, e2]
theorem lN_to32 {q : Nat} (h : q < 2147483648) : (lN q).toInt32 = nI q := by
  rw [i_eq, l_to32 (by rw [pk_lT (by omega)]; omega) (by rw [pk_lT (by omega)]; omega), pk_lT (by omega), nI_toInt (by omega)]
theorem l_mul (a b : Nat) : lN a * lN b = lN (a * b) := (Int64.ofNat_mul a b).symm
theorem int_at {ch : Int32} {a : Nat} (ha : a ≤ 200) (h : ch.toInt ≤ 99999999) (h0 : -2140000000 ≤ ch.toInt) :
    intS (nI a) ch = (if 0 < ch then comeS ch (ch.toInt64 * (nI a).toInt64 / 1000) else ch) ∧ ch.toInt ≤ (intS (nI a) ch).toInt ∧ (intS (nI a) ch).toInt ≤ 99999999 := by
  unfold intS
  by_cases q : (0 : Int32) < ch
  · have q2 := q
    rw [i_lt, show (0 : Int32).toInt = 0 from by decide] at q2
    obtain ⟨c, hc, rfl⟩ := nI_of (x := ch) (Int32.not_lt.mpr (Int32.le_of_lt q))
    have hc2 : (nI c).toInt = (c : Int) := nI_toInt hc
    rw [hc2] at h q2
    have hc9 : c ≤ 99999999 := by omega
    have hm : c * a ≤ 99999999 * 200 := Nat.mul_le_mul hc9 ha
    have hq : c * a / 1000 ≤ 20000000 := by omega
    have e : (nI c).toInt64 * (nI a).toInt64 / 1000 = lN (c * a / 1000) := by
      rw [nI_l hc, nI_l (by omega), l_mul, show (1000 : Int64) = lN 1000 from rfl, pk_lDiv (by omega) (by decide) (by decide)]
    have hq2 : (nI (c * a / 1000)).toInt = ((c * a / 1000 : Nat) : Int) := nI_toInt (by omega)
    rw [if_pos q, if_pos q, e, lN_to32 (by omega)]
    have b1 : -2147483648 ≤ (nI c).toInt + (nI (c * a / 1000)).toInt := by rw [hc2, hq2]; omega
    have b2 : (nI c).toInt + (nI (c * a / 1000)).toInt < 2147483648 := by rw [hc2, hq2]; omega
    refine ⟨by rw [take_come b1 b2, nI_l (by omega)], ?_⟩
    rw [take_toInt b1 b2, hc2, hq2]
    split <;> omega
  · rw [if_neg q, if_neg q]
    exact ⟨rfl, Int.le_refl _, h⟩
theorem yStep_ch {a n : Nat} (ha : a ≤ 200) (hn : n ≤ 10) {S : YS} (hok : ∀ k, k < n → okW (S.2.2.2 k)) (h : S.1.toInt ≤ 99999999) (h0 : -2100000000 ≤ S.1.toInt) : (yStep (nI a) n S).1.toInt ≤ 99999999 ∧ S.1.toInt - 9990 ≤ (yStep (nI a) n S).1.toInt := by
  obtain ⟨s, hs, es⟩ := due_N hok
  obtain ⟨-, h1, h2⟩ := int_at ha h (by omega)
  have e : (nI s).toInt = (s : Int) := nI_toInt (by omega)
  show (intS (nI a) S.1 - sm (dueF S.2.2.2) n).toInt ≤ _ ∧ _ ≤ (intS (nI a) S.1 - sm (dueF S.2.2.2) n).toInt
  rw [es, i_sub (by rw [e]; omega) (by rw [e]; omega), e]
  omega
theorem yIter_ch {a n : Nat} (ha : a ≤ 200) (hn : n ≤ 10) {S : YS} (hok : ∀ k, k < n → okW (S.2.2.2 k)) (h : S.1.toInt ≤ 99999999) (h0 : -2000000000 ≤ S.1.toInt) : ∀ y, y ≤ 61 → (yIter (nI a) n y S).1.toInt ≤ 99999999 ∧ S.1.toInt - 9990 * (y : Int) ≤ (yIter (nI a) n y S).1.toInt
  | 0, _ => ⟨h, by show _ ≤ S.1.toInt; omega⟩
  | y + 1, hy => by
    obtain ⟨h1, h2⟩ := yIter_ch ha hn hok h h0 y (by omega)
    obtain ⟨h3, h4⟩ := yStep_ch (S := yIter (nI a) n y S) ha hn (okW_iter hok y) h1 (by omega)
    exact ⟨h3, by show _ ≤ (yStep (nI a) n (yIter (nI a) n y S)).1.toInt; omega⟩
theorem yIter_int {a n : Nat} (ha : a ≤ 200) (hn : n ≤ 10) {S : YS} (hok : ∀ k, k < n → okW (S.2.2.2 k)) (h : S.1.toInt ≤ 99999999) (h0 : -2000000000 ≤ S.1.toInt) (y : Nat) (hy : y ≤ 61) : intS (nI a) (yIter (nI a) n y S).1 = (if 0 < (yIter (nI a) n y S).1 then comeS (yIter (nI a) n y S).1 ((yIter (nI a) n y S).1.toInt64 * (nI a).toInt64 / 1000) else (yIter (nI a) n y S).1) := by
  obtain ⟨h1, h2⟩ := yIter_ch ha hn hok h h0 y hy
  exact (int_at ha h1 (by omega)).1
theorem prc_yW (n : Nat) (Wd : Nat → Nat → Int32) : prcF (yW n Wd) = prcF Wd := by
  funext k
  show yW n Wd k 6 = Wd k 6
  unfold yW
  split
  · rfl
  · rfl
theorem prc_iter {r0 : Int32} {n : Nat} {S : YS} : ∀ y, prcF (yIter r0 n y S).2.2.2 = prcF S.2.2.2
  | 0 => rfl
  | y + 1 => by
    show prcF (yW n (yIter r0 n y S).2.2.2) = _
    rw [prc_yW, prc_iter y]
theorem prc_up {Wd : Nat → Nat → Int32} {k : Nat} {g : Nat → Int32} (h : g 6 = Wd k 6) : prcF (upW Wd k g) = prcF Wd := by
  funext j
  show upW Wd k g j 6 = Wd j 6
  unfold upW
  by_cases e : j = k
  · rw [if_pos e, h, e]
  · rw [if_neg e]
theorem okW_up {Wd : Nat → Nat → Int32} {n k : Nat} {g : Nat → Int32} (hok : ∀ j, j < n → okW (Wd j)) (h : okW g) : ∀ j, j < n → okW (upW Wd k g j) := by
  intro j hj
  unfold upW
  split
  · exact h
  · exact hok j hj
theorem Inv.deaths {i : Nat} {d r : Nat → Int32} {n : Nat} {ch pr : Int32} {Wd : Nat → Nat → Int32} (h : Inv i d r n ch pr Wd) {k : Nat} {x : Int32} (hx : 0 ≤ x ∧ x ≤ 1000) : Inv i (upd d k x) r n ch pr Wd := by
  obtain ⟨⟨D, hD⟩, h2⟩ := h
  obtain ⟨m, rfl, -, hm⟩ := of_rng (x := x) 0 1000 hx.1 hx.2 (by omega) (by omega)
  refine ⟨⟨fun j => if j = k then m else D j, fun j => ?_⟩, h2⟩
  unfold upd
  by_cases e : j = k
  · simp only [e, if_true]; exact ⟨hm, trivial⟩
  · simp only [e, if_false]; exact hD j
theorem Inv.rates {i : Nat} {d r : Nat → Int32} {n : Nat} {ch pr : Int32} {Wd : Nat → Nat → Int32} (h : Inv i d r n ch pr Wd) {k : Nat} (hk : k < 3) {x : Int32} (hx : 0 ≤ x ∧ x ≤ (if k = 0 then (200 : Int32) else 50)) : Inv i d (upd r k x) n ch pr Wd := by
  obtain ⟨h1, ⟨a, b, c, ha, hb, hc⟩, h2⟩ := h
  refine ⟨h1, ?_, h2⟩
  rcases (show k = 0 ∨ k = 1 ∨ k = 2 by omega) with rfl | rfl | rfl
  · obtain ⟨m, rfl, -, hm⟩ := of_rng (x := x) 0 200 hx.1 hx.2 (by omega) (by omega)
    exact ⟨m, b, c, ⟨rfl, hm⟩, hb, hc⟩
  · obtain ⟨m, rfl, -, hm⟩ := of_rng (x := x) 0 50 hx.1 hx.2 (by omega) (by omega)
    exact ⟨a, m, c, ha, ⟨rfl, hm⟩, hc⟩
  · obtain ⟨m, rfl, -, hm⟩ := of_rng (x := x) 0 50 hx.1 hx.2 (by omega) (by omega)
    exact ⟨a, b, m, ha, hb, rfl, hm⟩
theorem Inv.die {i : Nat} {d r : Nat → Int32} {n : Nat} {ch pr : Int32} {Wd : Nat → Nat → Int32} (h : Inv i d r n ch pr Wd) (k : Nat) : Inv i d r n ch pr (upW Wd k (upd (Wd k) 4 1)) := by
  obtain ⟨h1, h2, h3, h4, h5, h6⟩ := h
  refine ⟨h1, h2, h3, okW_up h4 (fun q => absurd q (by show ¬ (1 : Int32) = 0; decide)), ?_, h6⟩
  rw [prc_up (g := upd (Wd k) 4 1) rfl]; exact h5
theorem Inv.hi {i : Nat} {d r : Nat → Int32} {n : Nat} {ch pr : Int32} {Wd : Nat → Nat → Int32} (h : Inv i d r n ch pr Wd) : ¬ (1000 : Int32) + r 0 = 0 ∧ ¬ r 0 < 0 := by
  obtain ⟨-, ⟨a, b, c, ⟨ha, ha2⟩, -, -⟩, -⟩ := h
  rw [ha]
  exact hi_of (in_200 ha2)
theorem Inv.put {i : Nat} (hi : i ≤ 512) {d r : Nat → Int32} {n : Nat} {ch pr : Int32} {Wd : Nat → Nat → Int32} (h : Inv i d r n ch pr Wd) {x : Int32} (hx : -99999 ≤ x ∧ x ≤ 99999) : comeS ch x.toInt64 = takeS ch x ∧ Inv (i + 1) d r n (takeS ch x) pr Wd := by
  obtain ⟨h1, h2, h3, h4, h5, h6, h7⟩ := h
  have a1 := hx.1
  have a2 := hx.2
  rw [i_le, show (-99999 : Int32).toInt = -99999 from by decide] at a1
  rw [i_le, show (99999 : Int32).toInt = 99999 from by decide] at a2
  have b1 : -2147483648 ≤ ch.toInt + x.toInt := by omega
  have b2 : ch.toInt + x.toInt < 2147483648 := by omega
  refine ⟨(take_come b1 b2).symm, h1, h2, h3, h4, h5, ?_, ?_⟩
  · rw [take_toInt b1 b2]; split <;> omega
  · rw [take_toInt b1 b2]; split <;> omega
theorem Inv.giveUp {i : Nat} (hi : i ≤ 512) {d r : Nat → Int32} {n : Nat} {ch pr : Int32} {Wd : Nat → Nat → Int32} (h : Inv i d r n ch pr Wd) (k : Nat) (hk : k < n) : Inv (i + 1) d r n (ch - backS d r (Wd k)) pr (upW Wd k (upd (upd (Wd k) 4 2) 5 (Wd k 5 + backS d r (Wd k)))) := by
  obtain ⟨⟨D, hD⟩, ⟨a, b, c, ⟨ha, ha2⟩, hb, ⟨hc, hc2⟩⟩, h3, h4, h5, h6, h7⟩ := h
  obtain ⟨q, hq, eq⟩ := back_M hD ha2 ha hc2 hc (h4 k hk)
  have e : (nI q).toInt = (q : Int) := nI_toInt (by omega)
  refine ⟨⟨D, hD⟩, ⟨a, b, c, ⟨ha, ha2⟩, hb, ⟨hc, hc2⟩⟩, h3, okW_up h4 (fun z => absurd z (by show ¬ (2 : Int32) = 0; decide)), ?_, ?_, ?_⟩
  · rw [prc_up (g := upd (upd (Wd k) 4 2) 5 (Wd k 5 + backS d r (Wd k))) rfl]; exact h5
  · rw [eq, i_sub (by rw [e]; omega) (by rw [e]; omega), e]; omega
  · rw [eq, i_sub (by rw [e]; omega) (by rw [e]; omega), e]; omega
theorem Inv.years {i : Nat} (hi : i ≤ 512) {d r : Nat → Int32} {n : Nat} {ch pd yr pr : Int32} {Wd : Nat → Nat → Int32} (h : Inv i d r n ch pr Wd) :
    (∀ j, j < 61 → intS (r 0) (yIter (r 0) n j (ch, pd, yr, Wd)).1 = (if 0 < (yIter (r 0) n j (ch, pd, yr, Wd)).1 then comeS (yIter (r 0) n j (ch, pd, yr, Wd)).1 ((yIter (r 0) n j (ch, pd, yr, Wd)).1.toInt64 * (r 0).toInt64 / 1000) else (yIter (r 0) n j (ch, pd, yr, Wd)).1)) ∧
    (∀ y, sm (prcF (yIter (r 0) n y (ch, pd, yr, Wd)).2.2.2) n = pr) ∧
    ∀ y, y ≤ 50 → Inv (i + 1) d r n (yIter (r 0) n y (ch, pd, yr, Wd)).1 pr (yIter (r 0) n y (ch, pd, yr, Wd)).2.2.2 := by
  obtain ⟨h1, ⟨a, b, c, ⟨ha, ha2⟩, hb, hc⟩, h3, h4, h5, h6, h7⟩ := h
  have hp : ∀ y, sm (prcF (yIter (r 0) n y (ch, pd, yr, Wd)).2.2.2) n = pr := fun y => by rw [prc_iter y]; exact h5.symm
  refine ⟨fun j hj => ?_, hp, fun y hy => ⟨h1, ⟨a, b, c, ⟨ha, ha2⟩, hb, hc⟩, h3, okW_iter (S := (ch, pd, yr, Wd)) h4 y, (hp y).symm, ?_⟩⟩
  · rw [ha]
    exact yIter_int (S := (ch, pd, yr, Wd)) ha2 h3 h4 h6 (by show _ ≤ ch.toInt; omega) j (by omega)
  · rw [ha]
    obtain ⟨q1, q2⟩ := yIter_ch (S := (ch, pd, yr, Wd)) ha2 h3 h4 h6 (by show _ ≤ ch.toInt; omega) y (by omega)
    have q3 : ch.toInt - 9990 * (y : Int) ≤ (yIter (nI a) n y (ch, pd, yr, Wd)).1.toInt := q2
    exact ⟨q1, by omega⟩
theorem Inv.buy {i : Nat} (hi : i ≤ 512) {d r : Nat → Int32} {n : Nat} {ch pr : Int32} {Wd : Nat → Nat → Int32} (h : Inv i d r n ch pr Wd) (hn : n < 10) {ka kb : Nat} {x : Int32} (h1 : 50 ≤ ka) (h2 : ka ≤ 99) (hx : 1 ≤ x ∧ x ≤ 999) (hb : kb ≤ 30) :
    comeS ch (priceS (r 1) x (wN d (r 0) (100 - ka) kb)).toInt64 = takeS ch (priceS (r 1) x (wN d (r 0) (100 - ka) kb)) ∧
    Inv (i + 1) d r (n + 1) (takeS ch (priceS (r 1) x (wN d (r 0) (100 - ka) kb))) (pr + priceS (r 1) x (wN d (r 0) (100 - ka) kb)) (upW Wd n (mkW (nI ka) x (nI kb) (priceS (r 1) x (wN d (r 0) (100 - ka) kb)))) := by
  obtain ⟨⟨D, hD⟩, ⟨a, b, c, ⟨ha, ha2⟩, ⟨hb1, hb2⟩, hc⟩, h3, h4, h5, h6, h7⟩ := h
  obtain ⟨m, rfl, hm1, hm2⟩ := of_rng (x := x) 1 999 hx.1 hx.2 (by omega) (by omega)
  have hw := wM_le D a (100 - ka) kb
  have hp := price_M hb2 hm2 (show wM D a (100 - ka) kb ≤ 50000 by omega)
  have ep : priceS (r 1) (nI m) (wN d (r 0) (100 - ka) kb) = nI (pM b m (wM D a (100 - ka) kb)) := by
    rw [hb1, ha, wN_M hD ha2 _ _ (by omega)]; exact hp.1
  rw [ep]
  generalize pM b m (wM D a (100 - ka) kb) = p at hp
  have e : (nI p).toInt = (p : Int) := nI_toInt (by omega)
  have b1 : -2147483648 ≤ ch.toInt + (nI p).toInt := by rw [e]; omega
  have b2 : ch.toInt + (nI p).toInt < 2147483648 := by rw [e]; omega
  refine ⟨(take_come b1 b2).symm, ⟨D, hD⟩, ⟨a, b, c, ⟨ha, ha2⟩, ⟨hb1, hb2⟩, hc⟩, by omega, ?_, ?_, ?_, ?_⟩
  · intro k hk
    unfold upW
    by_cases z : k = n
    · rw [if_pos z]
      exact fun _ => ⟨⟨ka, rfl, h1, h2⟩, ⟨kb, rfl, hb⟩, m, rfl, hm1, hm2⟩
    · rw [if_neg z]
      exact h4 k (by omega)
  · rw [sm, h5]
    congr 1
    · exact sm_congr (fun k hk => by show Wd k 6 = upW Wd n _ k 6; unfold upW; rw [if_neg (by omega)])
    · show _ = upW Wd n _ n 6
      rw [upW_at]
      rfl
  · rw [take_toInt b1 b2, e]; split <;> omega
  · rw [take_toInt b1 b2, e]; split <;> omega
