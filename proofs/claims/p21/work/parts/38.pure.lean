/-! the whole numbers behind the worths: no reckoning leaves the ints, a greater interest never makes a worth greater, a greater sum never makes a price less -/
def wM (D : Nat → Nat) (i : Nat) : Nat → Nat → Nat
  | 0, _ => 0
  | n + 1, 0 => (1000 - D (49 - n)) * (1000 + wM D i n 0) / (1000 + i)
  | n + 1, late + 1 => (1000 - D (49 - n)) * wM D i n late / (1000 + i)
theorem wM_le (D : Nat → Nat) (i : Nat) : ∀ n late, wM D i n late ≤ 1000 * n
  | 0, _ => Nat.le_refl 0
  | n + 1, 0 => by
    have ih := wM_le D i n 0
    rw [wM]
    refine Nat.div_le_of_le_mul ?_
    calc (1000 - D (49 - n)) * (1000 + wM D i n 0) ≤ 1000 * (1000 + 1000 * n) := Nat.mul_le_mul (by omega) (by omega)
      _ ≤ (1000 + i) * (1000 * (n + 1)) := Nat.mul_le_mul (by omega) (by omega)
  | n + 1, late + 1 => by
    have ih := wM_le D i n late
    rw [wM]
    refine Nat.div_le_of_le_mul ?_
    calc (1000 - D (49 - n)) * wM D i n late ≤ 1000 * (1000 * n) := Nat.mul_le_mul (by omega) (by omega)
      _ ≤ (1000 + i) * (1000 * (n + 1)) := Nat.mul_le_mul (by omega) (by omega)
theorem wM_mono (D : Nat → Nat) {i j : Nat} (h : i ≤ j) : ∀ n late, wM D j n late ≤ wM D i n late
  | 0, _ => Nat.le_refl 0
  | n + 1, 0 => by
    have ih := wM_mono D h n 0
    rw [wM, wM]
    exact Nat.div_le_div (Nat.mul_le_mul (Nat.le_refl _) (by omega)) (by omega) (by omega)
  | n + 1, late + 1 => by
    have ih := wM_mono D h n late
    rw [wM, wM]
    exact Nat.div_le_div (Nat.mul_le_mul (Nat.le_refl _) ih) (by omega) (by omega)
abbrev okD (d : Nat → Int32) (D : Nat → Nat) : Prop := ∀ k, D k ≤ 1000 ∧ d k = nI (D k)
theorem n_mul (a b : Nat) : nI a * nI b = nI (a * b) := (Int32.ofNat_mul a b).symm
theorem n_div {a b : Nat} (h : a < 2147483648) (h0 : 0 < b) (hb : b < 2147483648) : nI a / nI b = nI (a / b) := pk_div h h0 hb
theorem wN_M {d : Nat → Int32} {D : Nat → Nat} (hd : okD d D) {i : Nat} (hi : i ≤ 200) : ∀ n late, n ≤ 50 → wN d (nI i) n late = nI (wM D i n late)
  | 0, late, _ => by rw [wN, wM]; rfl
  | n + 1, 0, h => by
    have ih := wN_M hd hi n 0 (by omega)
    have hb := wM_le D i n 0
    rw [wN, wM, ih, (hd (49 - n)).2, show (1000 : Int32) = nI 1000 from rfl, n_sub (hd (49 - n)).1, nI_add, nI_add, n_mul]
    refine n_div ?_ (by omega) (by omega)
    calc (1000 - D (49 - n)) * (1000 + wM D i n 0) ≤ 1000 * (1000 + 1000 * 50) := Nat.mul_le_mul (by omega) (by omega)
      _ < 2147483648 := by decide
  | n + 1, late + 1, h => by
    have ih := wN_M hd hi n late (by omega)
    have hb := wM_le D i n late
    rw [wN, wM, ih, (hd (49 - n)).2, show (1000 : Int32) = nI 1000 from rfl, n_sub (hd (49 - n)).1, nI_add, n_mul]
    refine n_div ?_ (by omega) (by omega)
    calc (1000 - D (49 - n)) * wM D i n late ≤ 1000 * (1000 * 50) := Nat.mul_le_mul (by omega) (by omega)
      _ < 2147483648 := by decide
/-- what is kept for a widow, in whole numbers -/
def kM (D : Nat → Nat) (i : Nat) (f : Nat → Int32) : Nat := if f 4 = 0 then (f 1).toNatClampNeg * wM D i (100 - (f 0).toNatClampNeg) (f 2).toNatClampNeg / 1000 else 0
theorem kM_le (D : Nat → Nat) (i : Nat) {f : Nat → Int32} (hok : okW f) : kM D i f ≤ 49950 := by
  unfold kM
  by_cases h : f 4 = 0
  · obtain ⟨⟨a, ha, ha1, ha2⟩, -, ⟨c, hc, hc1, hc2⟩⟩ := hok h
    rw [if_pos h, ha, hc, clamp_nI (by omega), clamp_nI (by omega)]
    have hb := wM_le D i (100 - a) (f 2).toNatClampNeg
    refine Nat.div_le_of_le_mul ?_
    calc c * wM D i (100 - a) (f 2).toNatClampNeg ≤ 999 * 50000 := Nat.mul_le_mul hc2 (by omega)
      _ ≤ 1000 * 49950 := by decide
  · rw [if_neg h]; omega
theorem kM_mono (D : Nat → Nat) {i j : Nat} (h : i ≤ j) (f : Nat → Int32) : kM D j f ≤ kM D i f := by
  unfold kM
  split
  · exact Nat.div_le_div_right (Nat.mul_le_mul (Nat.le_refl _) (wM_mono D h _ _))
  · exact Nat.le_refl _
theorem kept_M {d : Nat → Int32} {D : Nat → Nat} (hd : okD d D) {i : Nat} (hi : i ≤ 200) {f : Nat → Int32} (hok : okW f) : keptS d (nI i) f = nI (kM D i f) := by
  unfold keptS kM
  by_cases h : f 4 = 0
  · obtain ⟨⟨a, ha, ha1, ha2⟩, -, ⟨c, hc, hc1, hc2⟩⟩ := hok h
    rw [if_pos h, if_pos h, ha, hc, clamp_nI (by omega), clamp_nI (by omega), wN_M hd hi _ _ (by omega), n_mul, show (1000 : Int32) = nI 1000 from rfl]
    have hb := wM_le D i (100 - a) (f 2).toNatClampNeg
    refine n_div ?_ (by omega) (by omega)
    calc c * wM D i (100 - a) (f 2).toNatClampNeg ≤ 999 * 50000 := Nat.mul_le_mul hc2 (by omega)
      _ < 2147483648 := by decide
  · rw [if_neg h, if_neg h]; rfl
def smN (g : Nat → Nat) : Nat → Nat
  | 0 => 0
  | n + 1 => smN g n + g n
theorem sm_N {g : Nat → Int32} {G : Nat → Nat} : ∀ {n : Nat}, (∀ k, k < n → g k = nI (G k)) → sm g n = nI (smN G n)
  | 0, _ => rfl
  | n + 1, h => by rw [sm, smN, sm_N (fun k hk => h k (by omega)), h n (by omega), nI_add]
theorem smN_le {G : Nat → Nat} {B : Nat} : ∀ {n : Nat}, (∀ k, k < n → G k ≤ B) → smN G n ≤ B * n
  | 0, _ => Nat.le_refl _
  | n + 1, h => by
    have h1 := smN_le (fun k hk => h k (show k < n + 1 by omega)) (n := n)
    have h2 := h n (by omega)
    rw [smN, Nat.mul_succ]
    omega
theorem smN_mono {G G' : Nat → Nat} : ∀ {n : Nat}, (∀ k, k < n → G k ≤ G' k) → smN G n ≤ smN G' n
  | 0, _ => Nat.le_refl _
  | n + 1, h => by
    have h1 := smN_mono (fun k hk => h k (show k < n + 1 by omega)) (n := n)
    have h2 := h n (by omega)
    rw [smN, smN]
    omega
theorem keptsum {d : Nat → Int32} {D : Nat → Nat} (hd : okD d D) {n : Nat} {Wd : Nat → Nat → Int32} (hok : ∀ k, k < n → okW (Wd k)) {i : Nat} (hi : i ≤ 200) : sm (kptF d (nI i) Wd) n = nI (smN (fun k => kM D i (Wd k)) n) :=
  sm_N (fun k hk => kept_M hd hi (hok k hk))
theorem even_mono {d : Nat → Int32} {D : Nat → Nat} (hd : okD d D) {n : Nat} (hn : n ≤ 10) {ch : Int32} {Wd : Nat → Nat → Int32} (hok : ∀ k, k < n → okW (Wd k)) : ∀ i : Nat, i < 200 → sm (kptF d (nI i) Wd) n ≤ ch → sm (kptF d (nI (i + 1)) Wd) n ≤ ch := by
  intro i hi h
  rw [keptsum hd hok (by omega)] at h ⊢
  have h1 : smN (fun k => kM D (i + 1) (Wd k)) n ≤ smN (fun k => kM D i (Wd k)) n := smN_mono (fun k _ => kM_mono D (by omega) _)
  have h2 : smN (fun k => kM D i (Wd k)) n ≤ 49950 * n := smN_le (fun k hk => kM_le D i (hok k hk))
  exact Int32.le_trans ((le_nI (by omega)).mpr h1) h
/-- a price in whole numbers -/
def pM (r1 k w : Nat) : Nat := if w = 0 then 0 else if k * w / 1000 + k * w / 1000 * r1 / 100 < 1 then 1 else k * w / 1000 + k * w / 1000 * r1 / 100
theorem pbase {k w : Nat} (hk : k ≤ 999) (hw : w ≤ 50000) : k * w ≤ 49950000 ∧ k * w / 1000 ≤ 49950 := by
  have h : k * w ≤ 999 * 50000 := Nat.mul_le_mul hk hw
  omega
theorem price_M {r1 k w : Nat} (hr : r1 ≤ 50) (hk : k ≤ 999) (hw : w ≤ 50000) : priceS (nI r1) (nI k) (nI w) = nI (pM r1 k w) ∧ pM r1 k w ≤ 75000 := by
  obtain ⟨h1, h2⟩ := pbase hk hw
  have h3 : k * w / 1000 * r1 ≤ 49950 * 50 := Nat.mul_le_mul h2 hr
  unfold priceS pM
  by_cases h : w = 0
  · subst h; exact ⟨rfl, by simp⟩
  · have e : ¬ nI w = 0 := nI_ne0 (by omega) (by omega)
    have e1 : nI k * nI w / 1000 = nI (k * w / 1000) := by
      rw [n_mul, show (1000 : Int32) = nI 1000 from rfl]
      exact n_div (by omega) (by omega) (by omega)
    have e2 : nI (k * w / 1000) * nI r1 / 100 = nI (k * w / 1000 * r1 / 100) := by
      rw [n_mul, show (100 : Int32) = nI 100 from rfl]
      exact n_div (by omega) (by omega) (by omega)
    rw [if_neg e, if_neg h, e1, e2, nI_add]
    by_cases q : k * w / 1000 + k * w / 1000 * r1 / 100 < 1
    · rw [if_pos q, if_pos (show nI (k * w / 1000 + k * w / 1000 * r1 / 100) < (1 : Int32) from (lt_nI (b := 1) (by omega)).mpr q)]
      exact ⟨rfl, by decide⟩
    · rw [if_neg q, if_neg (fun (z : nI (k * w / 1000 + k * w / 1000 * r1 / 100) < (1 : Int32)) => q ((lt_nI (b := 1) (by omega)).mp z))]
      exact ⟨rfl, by omega⟩
theorem pM_mono (r1 : Nat) {k j : Nat} (w : Nat) (h : k ≤ j) : pM r1 k w ≤ pM r1 j w := by
  have h1 : k * w / 1000 ≤ j * w / 1000 := Nat.div_le_div_right (Nat.mul_le_mul h (Nat.le_refl _))
  have h2 : k * w / 1000 * r1 / 100 ≤ j * w / 1000 * r1 / 100 := Nat.div_le_div_right (Nat.mul_le_mul h1 (Nat.le_refl _))
  unfold pM
  by_cases z : w = 0
  · rw [if_pos z, if_pos z]; exact Nat.le_refl _
  · rw [if_neg z, if_neg z]
    by_cases q : k * w / 1000 + k * w / 1000 * r1 / 100 < 1
    · rw [if_pos q]
      split <;> omega
    · rw [if_neg q, if_neg (by omega)]
      omega
theorem affords_mono {d : Nat → Int32} {D : Nat → Nat} (hd : okD d D) {i r1 : Nat} (hi : i ≤ 200) (hr : r1 ≤ 50) {m late : Nat} (hm : m ≤ 50) {money : Int32} : ∀ k : Nat, k < 999 → priceS (nI r1) (nI (k + 1)) (wN d (nI i) m late) ≤ money → priceS (nI r1) (nI k) (wN d (nI i) m late) ≤ money := by
  intro k hk h
  have hb := wM_le D i m late
  rw [wN_M hd hi m late hm] at h ⊢
  rw [(price_M hr (by omega) (show wM D i m late ≤ 50000 by omega)).1] at h ⊢
  have h1 := (price_M hr (show k + 1 ≤ 999 by omega) (show wM D i m late ≤ 50000 by omega)).2
  have h2 := pM_mono r1 (k := k) (j := k + 1) (wM D i m late) (by omega)
  exact Int32.le_trans ((le_nI (by omega)).mpr h2) h
/-- what goes back to a widow, in whole numbers -/
theorem back_M {d : Nat → Int32} {D : Nat → Nat} (hd : okD d D) {r : Nat → Int32} {i r2 : Nat} (hi : i ≤ 200) (h0 : r 0 = nI i) (hr : r2 ≤ 50) (h2 : r 2 = nI r2) {f : Nat → Int32} (hok : okW f) : ∃ b : Nat, b ≤ 49950 ∧ backS d r f = nI b := by
  unfold backS
  have hk := kM_le D i hok
  rw [h0, h2, kept_M hd hi hok]
  have h3 : kM D i f * r2 ≤ 49950 * 50 := Nat.mul_le_mul hk hr
  split
  · refine ⟨kM D i f - kM D i f * r2 / 100, by omega, ?_⟩
    have h4 : kM D i f * r2 / 100 ≤ kM D i f := by
      refine Nat.div_le_of_le_mul ?_
      rw [Nat.mul_comm 100]
      exact Nat.mul_le_mul (Nat.le_refl _) (by omega)
    rw [n_mul, show (100 : Int32) = nI 100 from rfl, n_div (by omega) (by omega) (by omega), n_sub h4]
  · exact ⟨0, by omega, rfl⟩
theorem due_N {n : Nat} {Wd : Nat → Nat → Int32} (hok : ∀ k, k < n → okW (Wd k)) : ∃ s : Nat, s ≤ 999 * n ∧ sm (dueF Wd) n = nI s := by
  refine ⟨smN (fun k => if Wd k 4 = 0 ∧ Wd k 2 = 0 then (Wd k 1).toNatClampNeg else 0) n, smN_le (fun k hk => ?_), sm_N (fun k hk => ?_)⟩
  · skip
    split
    · rename_i h
      obtain ⟨-, -, ⟨c, hc, hc1, hc2⟩⟩ := hok k hk h.1
      rw [hc, clamp_nI (by omega)]; exact hc2
    · omega
  · show (if Wd k 4 = 0 ∧ Wd k 2 = 0 then Wd k 1 else 0) = _
    split
    · rename_i h
      obtain ⟨-, -, ⟨c, hc, hc1, hc2⟩⟩ := hok k hk h.1
      rw [hc, clamp_nI (by omega)]
    · rfl
