/-! what the law's act leaves: a state of both books, told by ten values -/
abbrev GS : Type := (Nat → Int32) × (Nat → Int32) × Nat × Int32 × Int32 × Int32 × Int32 × (Nat → Nat → Int32) × Nat × (Nat → Nat)
abbrev gWo (cI cW cV : ClassId) (X Bk Br Y : Nat → Nat) (R : va_W) (Ya : Nat) (V : Nat → Nat) (d r : Nat → Int32) (n : Nat) (ch pd pr yr : Int32) (Wd : Nat → Nat → Int32) : va_W :=
  tab cI X d r ++ (bk cW X Bk n ch pd pr yr Wd ++ (bk cW X Br 0 0 0 0 0 (fun _ _ => 0) ++ (obj X Bk Br :: (si cI cV Y Ya V n d r ch pd yr Wd ++ R))))
def gW (cI cW cV : ClassId) (X Bk Br Y : Nat → Nat) (R : va_W) (u : GS) : va_W :=
  gWo cI cW cV X Bk Br Y R u.2.2.2.2.2.2.2.2.1 u.2.2.2.2.2.2.2.2.2 u.1 u.2.1 u.2.2.1 u.2.2.2.1 u.2.2.2.2.1 u.2.2.2.2.2.1 u.2.2.2.2.2.2.1 u.2.2.2.2.2.2.2.1
def Inv2 (i : Nat) (d r : Nat → Int32) (n : Nat) (ch pr : Int32) (Wd : Nat → Nat → Int32) : Prop := Inv i d r n ch pr Wd ∧ ∀ k, k < n → 1 ≤ Wd k 6 ∧ 0 ≤ Wd k 2
def GI (i : Nat) (u : GS) : Prop := Inv2 i u.1 u.2.1 u.2.2.1 u.2.2.2.1 u.2.2.2.2.2.1 u.2.2.2.2.2.2.2.1
abbrev QA (dC : Nat → ClassId) (dI : Nat → Nat → Nat) (cI cW cV : ClassId) (X Bk Br Y : Nat → Nat) (R : va_W) (i : Nat) (ws : va_W) (sz : Nat) : Array Value → State → Outcome → State → Prop :=
  va_Qi (fun (z : Int32) (u : GS) => z = 1 ∧ GI i u) (fun u t => va_P (dC, dI) vwCl (gW cI cW cV X Bk Br Y R u) t.heap ∧ va_D (va_A ws sz) (gW cI cW cV X Bk Br Y R u)) (va_A ws sz)
def AC (p : Program) (s : State) (m : MethodId) (meth : Method) (c : Code) (dC : Nat → ClassId) (dI : Nat → Nat → Nat) (cI cW cV : ClassId) (args : Array Value) : Prop :=
  p.tables.exec = Jvm.exec ∧ c.code = cL_act ∧ meth.sig.returnType = some .boolean ∧ c.maxLocals = 19 ∧ s.vm.findClass RL = some m.cls ∧ (∀ w ∈ wsL_act, w.before args s = true) ∧ meth.locks = false ∧ KS dC dI cI cW cV s
theorem upd_comm (f : Nat → Int32) {i j : Nat} (h : i ≠ j) (x y : Int32) : upd (upd f i x) j y = upd (upd f j y) i x := by
  funext k
  unfold upd
  by_cases h1 : k = i
  · by_cases h2 : k = j
    · exact absurd (h1.symm.trans h2) h
    · simp [h1, h2, h]
  · by_cases h2 : k = j
    · subst h2; simp [h1]
    · simp [h1, h2]
theorem priceS_ge {r1 x w : Int32} (h : ¬ w = 0) : 1 ≤ priceS r1 x w := by
  unfold priceS
  rw [if_neg h]
  split
  · exact Int32.le_refl _
  · rename_i h2
    exact Int32.not_lt.mp h2
theorem Inv2.mono {i j : Nat} {d r : Nat → Int32} {n : Nat} {ch pr : Int32} {Wd : Nat → Nat → Int32} (hij : i ≤ j) (h : Inv2 i d r n ch pr Wd) : Inv2 j d r n ch pr Wd := ⟨h.1.mono hij, h.2⟩
theorem Inv2.deaths {i : Nat} {d r : Nat → Int32} {n : Nat} {ch pr : Int32} {Wd : Nat → Nat → Int32} (h : Inv2 i d r n ch pr Wd) {k : Nat} {x : Int32} (hx : 0 ≤ x ∧ x ≤ 1000) : Inv2 (i + 1) (upd d k x) r n ch pr Wd := ⟨(h.1.deaths hx).mono (Nat.le_succ i), h.2⟩
theorem Inv2.rates {i : Nat} {d r : Nat → Int32} {n : Nat} {ch pr : Int32} {Wd : Nat → Nat → Int32} (h : Inv2 i d r n ch pr Wd) {k : Nat} (hk : k < 3) {x : Int32} (hx : 0 ≤ x ∧ x ≤ (if k = 0 then (200 : Int32) else 50)) : Inv2 (i + 1) d (upd r k x) n ch pr Wd := ⟨(h.1.rates hk hx).mono (Nat.le_succ i), h.2⟩
theorem one_up {n : Nat} {Wd : Nat → Nat → Int32} (h : ∀ k, k < n → 1 ≤ Wd k 6 ∧ 0 ≤ Wd k 2) {k : Nat} {g : Nat → Int32} (hg : g 6 = Wd k 6 ∧ g 2 = Wd k 2) : ∀ j, j < n → 1 ≤ upW Wd k g j 6 ∧ 0 ≤ upW Wd k g j 2 := by
  intro j hj
  unfold upW
  by_cases e : j = k
  · subst e
    rw [if_pos rfl, hg.1, hg.2]; exact h j hj
  · rw [if_neg e]; exact h j hj
theorem wait_yW {n : Nat} {W : Nat → Nat → Int32} (hok : ∀ k, k < n → okW (W k)) (h : ∀ k, k < n → 0 ≤ W k 2) : ∀ k, k < n → 0 ≤ yW n W k 2 := by
  intro k hk
  by_cases h4 : W k 4 = 0
  · obtain ⟨-, ⟨b, hb, hb1⟩, -⟩ := hok k hk h4
    simp only [yW, hk, h4, and_self, if_true]
    show 0 ≤ (if W k 2 = 0 then W k 2 else W k 2 - 1)
    by_cases h2 : W k 2 = 0
    · rw [if_pos h2]; exact h k hk
    · rw [if_neg h2, hb, show (1 : Int32) = nI 1 from rfl, n_sub (by
        rcases Nat.eq_zero_or_pos b with z | z
        · rw [z] at hb; exact absurd hb h2
        · exact z)]
      exact (le_nI (a := 0) (by omega)).mpr (Nat.zero_le _)
  · simp only [yW, h4, and_false, if_false]
    exact h k hk
theorem wait_iter {r0 : Int32} {n : Nat} {S : YS} (hok : ∀ k, k < n → okW (S.2.2.2 k)) (h : ∀ k, k < n → 0 ≤ S.2.2.2 k 2) : ∀ y k, k < n → 0 ≤ (yIter r0 n y S).2.2.2 k 2
  | 0 => h
  | y + 1 => wait_yW (okW_iter hok y) (wait_iter hok h y)
theorem Inv2.die {i : Nat} {d r : Nat → Int32} {n : Nat} {ch pr : Int32} {Wd : Nat → Nat → Int32} (h : Inv2 i d r n ch pr Wd) (k : Nat) : Inv2 (i + 1) d r n ch pr (upW Wd k (upd (Wd k) 4 1)) := ⟨(h.1.die k).mono (Nat.le_succ i), one_up h.2 ⟨rfl, rfl⟩⟩
theorem Inv2.giveUp {i : Nat} (hi : i ≤ 512) {d r : Nat → Int32} {n : Nat} {ch pr : Int32} {Wd : Nat → Nat → Int32} (h : Inv2 i d r n ch pr Wd) (k : Nat) (hk : k < n) : Inv2 (i + 1) d r n (ch - backS d r (Wd k)) pr (upW Wd k (upd (upd (Wd k) 4 2) 5 (Wd k 5 + backS d r (Wd k)))) := ⟨h.1.giveUp hi k hk, one_up h.2 ⟨rfl, rfl⟩⟩
theorem Inv2.put {i : Nat} (hi : i ≤ 512) {d r : Nat → Int32} {n : Nat} {ch pr : Int32} {Wd : Nat → Nat → Int32} (h : Inv2 i d r n ch pr Wd) {x : Int32} (hx : -99999 ≤ x ∧ x ≤ 99999) : comeS ch x.toInt64 = takeS ch x ∧ Inv2 (i + 1) d r n (takeS ch x) pr Wd := ⟨(h.1.put hi hx).1, (h.1.put hi hx).2, h.2⟩
theorem Inv2.years {i : Nat} (hi : i ≤ 512) {d r : Nat → Int32} {n : Nat} {ch pd yr pr : Int32} {Wd : Nat → Nat → Int32} (h : Inv2 i d r n ch pr Wd) (y : Nat) (hy : y ≤ 50) : Inv2 (i + 1) d r n (yIter (r 0) n y (ch, pd, yr, Wd)).1 pr (yIter (r 0) n y (ch, pd, yr, Wd)).2.2.2 := by
  refine ⟨(h.1.years (pd := pd) (yr := yr) hi).2.2 y hy, fun k hk => ?_⟩
  have e : prcF (yIter (r 0) n y (ch, pd, yr, Wd)).2.2.2 = prcF Wd := prc_iter (S := (ch, pd, yr, Wd)) y
  have e2 : (yIter (r 0) n y (ch, pd, yr, Wd)).2.2.2 k 6 = Wd k 6 := congrFun e k
  exact ⟨by rw [e2]; exact (h.2 k hk).1, wait_iter (S := (ch, pd, yr, Wd)) h.1.2.2.2.1 (fun j hj => (h.2 j hj).2) y k hk⟩
theorem Inv2.buy {i : Nat} (hi : i ≤ 512) {d r : Nat → Int32} {n : Nat} {ch pr : Int32} {Wd : Nat → Nat → Int32} (h : Inv2 i d r n ch pr Wd) (hn : n < 10) {ka kb : Nat} {x : Int32} (h1 : 50 ≤ ka) (h2 : ka ≤ 99) (hx : 1 ≤ x ∧ x ≤ 999) (hb : kb ≤ 30) (hw : ¬ wN d (r 0) (100 - ka) kb = 0) :
    comeS ch (priceS (r 1) x (wN d (r 0) (100 - ka) kb)).toInt64 = takeS ch (priceS (r 1) x (wN d (r 0) (100 - ka) kb)) ∧
    Inv2 (i + 1) d r (n + 1) (takeS ch (priceS (r 1) x (wN d (r 0) (100 - ka) kb))) (pr + priceS (r 1) x (wN d (r 0) (100 - ka) kb)) (upW Wd n (mkW (nI ka) x (nI kb) (priceS (r 1) x (wN d (r 0) (100 - ka) kb)))) := by
  refine ⟨(h.1.buy hi hn h1 h2 hx hb).1, (h.1.buy hi hn h1 h2 hx hb).2, fun k hk => ?_⟩
  unfold upW
  by_cases z : k = n
  · rw [if_pos z]
    exact ⟨priceS_ge hw, (le_nI (a := 0) (by omega)).mpr (Nat.zero_le _)⟩
  · rw [if_neg z]
    exact h.2 k (by omega)
/-- a widow of the law's own book is written, in the world of both -/
theorem cs_set {cI cW cV : ClassId} {X Bk Br Y : Nat → Nat} {Ya : Nat} {V : Nat → Nat} {d r d2 r2 : Nat → Int32} {n nn n2 : Nat} {ch pd pr yr ch2 pd2 pr2 yr2 sch spd syr : Int32} {Wd W2 Ws : Nat → Nat → Int32} {R : va_W} {k : Nat} {g : Nat → Int32} (h : k < nn) :
    (tab cI X d r ++ (bk cW X Bk n ch pd pr yr Wd ++ (bk cW X Br n2 ch2 pd2 pr2 yr2 W2 ++ (obj X Bk Br :: (si cI cV Y Ya V nn d2 r2 sch spd syr Ws ++ R))))).set (27 + (k + 4 + 1)) (V k, .inr (5, row g)) =
    tab cI X d r ++ (bk cW X Bk n ch pd pr yr Wd ++ (bk cW X Br n2 ch2 pd2 pr2 yr2 W2 ++ (obj X Bk Br :: (si cI cV Y Ya V nn d2 r2 sch spd syr (upW Ws k g) ++ R)))) := by
  rw [cw_aset]
  show tab cI X d r ++ (bk cW X Bk n ch pd pr yr Wd ++ (bk cW X Br n2 ch2 pd2 pr2 yr2 W2 ++ (obj X Bk Br :: ((si cI cV Y Ya V nn d2 r2 sch spd syr Ws ++ R).set (k + 4) (V k, .inr (5, row g)))))) = _
  rw [si_set h]
theorem cs_at {cI cW cV : ClassId} {X Bk Br Y : Nat → Nat} {Ya : Nat} {V : Nat → Nat} {d r d2 r2 : Nat → Int32} {n nn n2 : Nat} {ch pd pr yr ch2 pd2 pr2 yr2 sch spd syr : Int32} {Wd W2 Ws : Nat → Nat → Int32} {R : va_W} {k : Nat} (h : k < nn) :
    (tab cI X d r ++ (bk cW X Bk n ch pd pr yr Wd ++ (bk cW X Br n2 ch2 pd2 pr2 yr2 W2 ++ (obj X Bk Br :: (si cI cV Y Ya V nn d2 r2 sch spd syr Ws ++ R)))))[27 + (k + 4 + 1)]? = some (V k, .inr (5, row (Ws k))) := by
  have h9 : (obj X Bk Br :: (si cI cV Y Ya V nn d2 r2 sch spd syr Ws ++ R))[k + 4 + 1]? = some (V k, .inr (5, row (Ws k))) := by
    show (si cI cV Y Ya V nn d2 r2 sch spd syr Ws ++ R)[k + 4]? = _
    exact si_at h
  exact cw_at h9
theorem cs_atU {cI cW cV : ClassId} {X Bk Br Y : Nat → Nat} {Ya : Nat} {V : Nat → Nat} {d r d2 r2 : Nat → Int32} {n nn n2 : Nat} {ch pd pr yr ch2 pd2 pr2 yr2 sch spd syr : Int32} {Wd W2 Ws : Nat → Nat → Int32} {R : va_W} {k : Nat} {g : Nat → Int32} (h : k < nn) :
    (tab cI X d r ++ (bk cW X Bk n ch pd pr yr Wd ++ (bk cW X Br n2 ch2 pd2 pr2 yr2 W2 ++ (obj X Bk Br :: (si cI cV Y Ya V nn d2 r2 sch spd syr (upW Ws k g) ++ R)))))[27 + (k + 4 + 1)]? = some (V k, .inr (5, row g)) := by
  rw [cs_at h, upW_at]
theorem cs_setU {cI cW cV : ClassId} {X Bk Br Y : Nat → Nat} {Ya : Nat} {V : Nat → Nat} {d r d2 r2 : Nat → Int32} {n nn n2 : Nat} {ch pd pr yr ch2 pd2 pr2 yr2 sch spd syr : Int32} {Wd W2 Ws : Nat → Nat → Int32} {R : va_W} {k : Nat} {g g1 : Nat → Int32} (h : k < nn) :
    (tab cI X d r ++ (bk cW X Bk n ch pd pr yr Wd ++ (bk cW X Br n2 ch2 pd2 pr2 yr2 W2 ++ (obj X Bk Br :: (si cI cV Y Ya V nn d2 r2 sch spd syr (upW Ws k g) ++ R))))).set (27 + (k + 4 + 1)) (V k, .inr (5, row g1)) =
    tab cI X d r ++ (bk cW X Bk n ch pd pr yr Wd ++ (bk cW X Br n2 ch2 pd2 pr2 yr2 W2 ++ (obj X Bk Br :: (si cI cV Y Ya V nn d2 r2 sch spd syr (upW Ws k g1) ++ R)))) := by
  rw [cs_set h, upW_upW]
theorem le0_nI {k b : Nat} (h : k ≤ b) (hb : b < 2147483648) : 0 ≤ nI k ∧ nI k ≤ nI b := ⟨(le_nI (a := 0) (by omega)).mpr (Nat.zero_le _), (le_nI (by omega)).mpr h⟩
theorem put_rng {k a b : Nat} (h : k ≤ a + b) (ha : a ≤ 99999) (hb : b ≤ 99999) : -99999 ≤ nI k - nI a ∧ nI k - nI a ≤ 99999 := by
  have e : (nI k - nI a).toInt = (k : Int) - a := pk_sub_toInt (by omega) (by omega)
  rw [i_le, i_le, e, show (-99999 : Int32).toInt = -99999 from by decide, show (99999 : Int32).toInt = 99999 from by decide]
  omega
theorem nI_of0 {k : Nat} (h : k < 2147483648) (e : nI k = 0) : k = 0 := by
  rcases Nat.eq_zero_or_pos k with z | z
  · exact z
  · exact absurd e (nI_ne0 z (by omega))
theorem paid_step (a b c : Int32) : a - c + b = a + b - c := by
  rw [Int32.sub_eq_add_neg, Int32.sub_eq_add_neg, Int32.add_assoc, Int32.add_assoc, Int32.add_comm (-c) b]
theorem paid_0 (a : Int32) : (0 : Int32) = a - a := (Int32.sub_self a).symm
