/-! small facts for the face -/
theorem age_in {k : Nat} (h1 : 50 ≤ k) (h2 : k ≤ 99) : 50 ≤ nI k ∧ nI k ≤ 99 := ⟨(le_nI (a := 50) (by omega)).mpr h1, (le_nI (b := 99) (by omega)).mpr h2⟩
theorem put_in {k : Nat} (h : k ≤ 30) : 0 ≤ nI k ∧ nI k ≤ 30 := ⟨(le_nI (a := 0) (by omega)).mpr (Nat.zero_le _), (le_nI (b := 30) (by omega)).mpr h⟩
theorem yrs_in {k : Nat} (h1 : 1 ≤ k) (h2 : k ≤ 50) : 1 ≤ nI k ∧ nI k ≤ 50 := ⟨(le_nI (a := 1) (by omega)).mpr h1, (le_nI (b := 50) (by omega)).mpr h2⟩
theorem wid_in {k n : Nat} (h : k < n) (hn : n ≤ 10) : 0 ≤ nI k ∧ nI k < nI n := ⟨(le_nI (a := 0) (by omega)).mpr (Nat.zero_le _), (lt_nI (by omega)).mpr h⟩
theorem cw_obj2 {cI cW : ClassId} {X Bk Br : Nat → Nat} {d r : Nat → Int32} {n n2 : Nat} {ch pd pr yr ch2 pd2 pr2 yr2 : Int32} {Wd W2 : Nat → Nat → Int32} {R : va_W} :
    (tab cI X d r ++ (bk cW X Br n ch pd pr yr Wd ++ (bk cW X Bk n2 ch2 pd2 pr2 yr2 W2 ++ (obj X Bk Br :: R))))[27]? = some (X 0, .inr (3, [.ref (X 1), .ref (Bk 0), .ref (Br 0)])) := by
  show (wl Br Wd ++ (bk cW X Bk n2 ch2 pd2 pr2 yr2 W2 ++ (obj X Bk Br :: R)))[22]? = _
  rw [List.getElem?_append_right (by rw [wl_len]; omega), wl_len]
  show (wl Bk W2 ++ (obj X Bk Br :: R))[10]? = _
  rw [List.getElem?_append_right (by rw [wl_len]; omega), wl_len]
  rfl
/-- the first k from k0 on, of f many, of which P says yes; k0 + f without one -/
def fstS (P : Nat → Bool) : Nat → Nat → Nat
  | 0, k => k
  | f + 1, k => if P k then k else fstS P f (k + 1)
theorem fstS_rng (P : Nat → Bool) : ∀ f k, k ≤ fstS P f k ∧ fstS P f k ≤ k + f
  | 0, k => ⟨Nat.le_refl _, Nat.le_refl _⟩
  | f + 1, k => by
    rw [fstS]
    have ih := fstS_rng P f (k + 1)
    split <;> omega
theorem fstS_no (P : Nat → Bool) : ∀ f k j, k ≤ j → j < fstS P f k → P j = false
  | 0, k, j, h1, h2 => absurd h2 (by rw [fstS]; omega)
  | f + 1, k, j, h1, h2 => by
    rw [fstS] at h2
    by_cases hp : P k = true
    · rw [if_pos hp] at h2; omega
    · rw [if_neg hp] at h2
      rcases Nat.eq_or_lt_of_le h1 with e | e
      · rw [← e]; simpa using hp
      · exact fstS_no P f (k + 1) j e h2
theorem fstS_yes (P : Nat → Bool) : ∀ f k, fstS P f k < k + f → P (fstS P f k) = true
  | 0, k, h => absurd h (by rw [fstS]; omega)
  | f + 1, k, h => by
    rw [fstS] at h ⊢
    by_cases hp : P k = true
    · rw [if_pos hp]; exact hp
    · rw [if_neg hp] at h ⊢
      exact fstS_yes P f (k + 1) (by omega)
/-- the least interest with which it is even; 201 without one -/
def evS (d : Nat → Int32) (n : Nat) (ch : Int32) (Wd : Nat → Nat → Int32) : Nat := fstS (fun i => decide (sm (kptF d (nI i) Wd) n ≤ ch)) 201 0
def evR (E : Nat) : Int32 := if E = 201 then -1 else nI E
def lsS (r0 : Int32) (n : Nat) (S : YS) : Nat := fstS (fun y => decide ((yIter r0 n y S).1 < 0)) 61 0
def lsR (E : Nat) : Int32 := if E = 61 then -1 else nI E
def digF (g : Nat → Int32) (x : Int64) : Nat → Int64
  | 0 => x
  | k + 1 => digF g x k * 31 + (g k).toInt64
def digO (d r : Nat → Int32) (Wd : Nat → Nat → Int32) (x : Int64) : Nat → Int64
  | 0 => x
  | k + 1 => digF (fun f => tellS d r (Wd k) f) (digO d r Wd x k) 9
theorem row_upd (f : Nat → Int32) (x : Int32) : (row f).set 4 (.int x) = row (upd f 4 x) := rfl
theorem row_upd5 (f : Nat → Int32) (x : Int32) : (row f).set 5 (.int x) = row (upd f 5 x) := rfl
theorem br_high_n {k : Nat} (h : ¬ nI k = 0) : (50 : Int32) = (if k = 0 then (200 : Int32) else 50) := by
  rw [if_neg (fun q => h (by rw [q]; rfl))]
theorem br_high_z {k : Nat} (hk : k < 2147483648) (h : nI k = 0) : (200 : Int32) = (if k = 0 then (200 : Int32) else 50) := by
  rcases Nat.eq_zero_or_pos k with z | z
  · rw [if_pos z]
  · exact absurd h (nI_ne0 z (by omega))
theorem high_in {k : Nat} {x y : Int32} (hk : k < 3) (h : x ≤ (if k = 0 then (200 : Int32) else 50)) (e : y = (if k = 0 then (200 : Int32) else 50)) : x ≤ y := by rw [e]; exact h
theorem high_out {k : Nat} {x y : Int32} (e : y = (if k = 0 then (200 : Int32) else 50)) (h : x ≤ y) : x ≤ (if k = 0 then (200 : Int32) else 50) := by rw [← e]; exact h
theorem lt_le {f : Int32} {a b : Nat} (hb : b = a + 1) (ha : b < 2147483648) (h : f < nI b) : f ≤ nI a := by
  subst hb
  rw [i_lt, nI_toInt (by omega)] at h
  rw [i_le, nI_toInt (by omega)]
  omega
theorem end8 {f : Int32} (h : ¬ f < 0) (h2 : f < 9) : 0 ≤ f ∧ f ≤ 8 := ⟨Int32.not_lt.mp h, lt_le (a := 8) (b := 9) rfl (by omega) h2⟩
theorem end2 {f : Int32} (h : ¬ f < 0) (h2 : f < 3) : 0 ≤ f ∧ f ≤ 2 := ⟨Int32.not_lt.mp h, lt_le (a := 2) (b := 3) rfl (by omega) h2⟩
theorem evS_rng (d : Nat → Int32) (n : Nat) (ch : Int32) (Wd : Nat → Nat → Int32) : evS d n ch Wd ≤ 201 := by
  have h := fstS_rng (fun i => decide (sm (kptF d (nI i) Wd) n ≤ ch)) 201 0
  unfold evS
  omega
theorem evS_le {d : Nat → Int32} {n : Nat} {ch : Int32} {Wd : Nat → Nat → Int32} {t : Nat} (h : sm (kptF d (nI t) Wd) n ≤ ch) : evS d n ch Wd ≤ t := by
  rcases Nat.lt_or_ge t (evS d n ch Wd) with g | g
  · have := fstS_no (fun i => decide (sm (kptF d (nI i) Wd) n ≤ ch)) 201 0 t (Nat.zero_le _) g
    simp only [decide_eq_false_iff_not] at this
    exact absurd h this
  · exact g
theorem evS_gt {d : Nat → Int32} {n : Nat} {ch : Int32} {Wd : Nat → Nat → Int32} (hm : ∀ i : Nat, i < 200 → sm (kptF d (nI i) Wd) n ≤ ch → sm (kptF d (nI (i + 1)) Wd) n ≤ ch) {t : Nat} (ht : t ≤ 200) (h : ¬ sm (kptF d (nI t) Wd) n ≤ ch) : t < evS d n ch Wd := by
  rcases Nat.lt_or_ge t (evS d n ch Wd) with g | g
  · exact g
  · exfalso
    have hy := fstS_yes (fun i => decide (sm (kptF d (nI i) Wd) n ≤ ch)) 201 0 (by show evS d n ch Wd < 0 + 201; omega)
    have hy2 : sm (kptF d (nI (evS d n ch Wd)) Wd) n ≤ ch := of_decide_eq_true hy
    have up : ∀ q : Nat, evS d n ch Wd + q ≤ 200 → sm (kptF d (nI (evS d n ch Wd + q)) Wd) n ≤ ch := by
      intro q
      induction q with
      | zero => intro _; exact hy2
      | succ q ih => intro hq; exact hm (evS d n ch Wd + q) (by omega) (ih (by omega))
    have := up (t - evS d n ch Wd) (by omega)
    rw [show evS d n ch Wd + (t - evS d n ch Wd) = t by omega] at this
    exact h this
theorem hi_of {x : Int32} (h : 0 ≤ x ∧ x ≤ 200) : ¬ (1000 : Int32) + x = 0 ∧ ¬ x < 0 := by
  refine ⟨fun q => ?_, Int32.not_lt.mpr h.1⟩
  have h1 := h.1
  have h2 := h.2
  obtain ⟨k, rfl, h3, h4⟩ := of_rng (x := x) 0 200 h1 h2 (by omega) (by omega)
  rw [show (1000 : Int32) = nI 1000 from rfl, nI_add] at q
  exact absurd q (nI_ne0 (by omega) (by omega))
theorem in_200 {t : Nat} (h : t ≤ 200) : 0 ≤ nI t ∧ nI t ≤ 200 := ⟨(le_nI (a := 0) (by omega)).mpr (Nat.zero_le _), (le_nI (b := 200) (by omega)).mpr h⟩
theorem KK.drawn {dC : Nat → ClassId} {dI : Nat → Nat → Nat} {cI cW : ClassId} {s : State} (d0 : Drawn) (h : KK dC dI cI cW s) : KK dC dI cI cW (s.setDrawn d0) :=
  ⟨va_K.moved (u := s) (U := s.setDrawn d0) (Vm.Alike.refl s.vm) h.1, va_Nw.same rfl rfl h.2.1, va_Nw.same rfl rfl h.2.2⟩
theorem ev_add {g s : Nat} (h : 0 < s) : nI g - 1 + nI s = nI (g + s - 1) := by
  rw [← n_sub (a := g + s) (b := 1) (by omega), ← nI_add]
  show nI g - nI 1 + nI s = nI g + nI s - nI 1
  rw [Int32.sub_eq_add_neg, Int32.sub_eq_add_neg, Int32.add_assoc, Int32.add_assoc, Int32.add_comm (-nI 1)]
theorem ev_201 {g : Nat} (h : g < 1000) (h2 : nI g - 1 = 200) : g = 201 := by
  have e : nI g = nI g - 1 + 1 := (Int32.sub_add_cancel _ _).symm
  rw [h2] at e
  exact (nI_eq (a := g) (b := 201) (by omega) (by omega)).mp e
theorem ev_n201 {g : Nat} (h2 : ¬ nI g - 1 = 200) : ¬ g = 201 := by
  intro q
  subst q
  exact h2 (by decide)
