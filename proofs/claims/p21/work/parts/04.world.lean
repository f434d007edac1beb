/-! the worlds: the tables; a book -/
abbrev tab (cI : ClassId) (X : Nat → Nat) (d r : Nat → Int32) : va_W := [(X 1, .inr (1, [.ref (X 2), .ref (X 3)])), (X 2, .inl (cI, 50, .inl d)), (X 3, .inl (cI, 3, .inl r))]
def wl (B : Nat → Nat) (W : Nat → Nat → Int32) : va_W := (List.range 10).map (fun k => (B (k + 2), .inr (2, row (W k))))
abbrev bk (cW : ClassId) (X B : Nat → Nat) (n : Nat) (ch pd pr yr : Int32) (W : Nat → Nat → Int32) : va_W :=
  (B 0, .inr (0, [.ref (X 1), .ref (B 1), .int (nI n), .int ch, .int pd, .int pr, .int yr])) :: (B 1, .inl (cW, 10, .inr (.inr (.inr (.inr (fun k => some (B (k + 2)))))))) :: wl B W
def upW (W : Nat → Nat → Int32) (k : Nat) (g : Nat → Int32) : Nat → Nat → Int32 := fun j => if j = k then g else W j
theorem wl_len (B : Nat → Nat) (W : Nat → Nat → Int32) : (wl B W).length = 10 := by simp [wl]
theorem wl_at {B : Nat → Nat} {W : Nat → Nat → Int32} {k : Nat} (h : k < 10) : (wl B W)[k]? = some (B (k + 2), .inr (2, row (W k))) := by
  simp [wl, List.getElem?_map, List.getElem?_range h]
theorem wl_set {B : Nat → Nat} {W : Nat → Nat → Int32} {k : Nat} {g : Nat → Int32} : (wl B W).set k (B (k + 2), .inr (2, row g)) = wl B (upW W k g) := by
  apply List.ext_getElem?
  intro j
  by_cases hj : j < 10
  · rw [wl_at hj, List.getElem?_set]
    by_cases e : k = j
    · subst e
      simp [wl_len, hj, upW]
    · rw [if_neg e, wl_at hj]
      simp [upW, show ¬ j = k from fun q => e q.symm]
  · have h1 : ((wl B W).set k (B (k + 2), .inr (2, row g)))[j]? = none := List.getElem?_eq_none (by rw [List.length_set, wl_len]; omega)
    have h2 : (wl B (upW W k g))[j]? = none := List.getElem?_eq_none (by rw [wl_len]; omega)
    rw [h1, h2]
theorem wl_congr {B : Nat → Nat} {W W' : Nat → Nat → Int32} (h : ∀ k, k < 10 → row (W k) = row (W' k)) : wl B W = wl B W' := by
  unfold wl
  apply List.map_congr_left
  intro k hk
  rw [h k (List.mem_range.mp hk)]
theorem bk_at {cW : ClassId} {X B : Nat → Nat} {n : Nat} {ch pd pr yr : Int32} {W : Nat → Nat → Int32} {k : Nat} (h : k < 10) : (bk cW X B n ch pd pr yr W)[k + 2]? = some (B (k + 2), .inr (2, row (W k))) := by
  show (wl B W)[k]? = _
  exact wl_at h
theorem bw_at {cI cW : ClassId} {X B : Nat → Nat} {d r : Nat → Int32} {n : Nat} {ch pd pr yr : Int32} {W : Nat → Nat → Int32} {R : va_W} {k : Nat} (h : k < 10) : (tab cI X d r ++ (bk cW X B n ch pd pr yr W ++ R))[k + 5]? = some (B (k + 2), .inr (2, row (W k))) := by
  show (wl B W ++ R)[k]? = _
  rw [List.getElem?_append_left (by rw [wl_len]; exact h)]
  exact wl_at h
theorem bw_set {cI cW : ClassId} {X B : Nat → Nat} {d r : Nat → Int32} {n : Nat} {ch pd pr yr : Int32} {W : Nat → Nat → Int32} {R : va_W} {k : Nat} {g : Nat → Int32} (h : k < 10) : (tab cI X d r ++ (bk cW X B n ch pd pr yr W ++ R)).set (k + 5) (B (k + 2), .inr (2, row g)) = tab cI X d r ++ (bk cW X B n ch pd pr yr (upW W k g) ++ R) := by
  have e : (wl B W ++ R).set k (B (k + 2), .inr (2, row g)) = wl B (upW W k g) ++ R := by
    rw [List.set_append_left _ _ (by rw [wl_len]; exact h), wl_set]
  show tab cI X d r ++ (_ :: _ :: (wl B W ++ R).set k (B (k + 2), .inr (2, row g))) = _
  rw [e]
  rfl
/-! sums over the widows; a year -/
def sm (g : Nat → Int32) : Nat → Int32
  | 0 => 0
  | n + 1 => sm g n + g n
theorem sm_congr {g h : Nat → Int32} : ∀ {n : Nat}, (∀ k, k < n → g k = h k) → sm g n = sm h n
  | 0, _ => rfl
  | n + 1, e => by rw [sm, sm, sm_congr (fun k hk => e k (by omega)), e n (by omega)]
abbrev alvF (W : Nat → Nat → Int32) : Nat → Int32 := fun k => if W k 4 = 0 then 1 else 0
abbrev ageF (W : Nat → Nat → Int32) : Nat → Int32 := fun k => if W k 4 = 0 then W k 0 else 0
abbrev dueF (W : Nat → Nat → Int32) : Nat → Int32 := fun k => if W k 4 = 0 ∧ W k 2 = 0 then W k 1 else 0
abbrev kptF (d : Nat → Int32) (i : Int32) (W : Nat → Nat → Int32) : Nat → Int32 := fun k => keptS d i (W k)
def countS (d r : Nat → Int32) (n : Nat) (ch pd pr yr : Int32) (W : Nat → Nat → Int32) (what : Nat) : Int32 :=
  if what = 0 then yr else if what = 1 then nI n else if what = 2 then sm (alvF W) n else if what = 3 then ch else if what = 4 then sm (kptF d (r 0) W) n
  else if what = 5 then ch - sm (kptF d (r 0) W) n else if what = 6 then sm (dueF W) n else if what = 7 then pd else pr
def mkW (a s p c : Int32) : Nat → Int32 := fun k => if k = 0 then a else if k = 1 then s else if k = 2 then p else if k = 6 then c else 0
def yearW (f : Nat → Int32) : Nat → Int32 := fun k => if k = 0 then f 0 + 1 else if k = 2 then (if f 2 = 0 then f 2 else f 2 - 1) else if k = 3 then f 3 + 1 else if k = 4 then (if f 0 = 99 then 1 else f 4) else if k = 5 then (if f 2 = 0 then f 5 + f 1 else f 5) else f k
def takeS (ch x : Int32) : Int32 := if 99999999 < ch + x then 99999999 else ch + x
def intS (r0 ch : Int32) : Int32 := if 0 < ch then takeS ch (ch.toInt64 * r0.toInt64 / 1000).toInt32 else ch
def yW (n : Nat) (W : Nat → Nat → Int32) : Nat → Nat → Int32 := fun k => if k < n ∧ W k 4 = 0 then yearW (W k) else W k
abbrev YS : Type := Int32 × Int32 × Int32 × (Nat → Nat → Int32)
def yStep (r0 : Int32) (n : Nat) (S : YS) : YS := (intS r0 S.1 - sm (dueF S.2.2.2) n, S.2.1 + sm (dueF S.2.2.2) n, S.2.2.1 + 1, yW n S.2.2.2)
def yIter (r0 : Int32) (n : Nat) : Nat → YS → YS
  | 0, S => S
  | k + 1, S => yStep r0 n (yIter r0 n k S)
theorem i_assoc_sub (a b c : Int32) : a - b - c = a - (b + c) := by
  apply Int32.toBitVec_inj.mp
  simp only [Int32.toBitVec_sub, Int32.toBitVec_add]
  rw [BitVec.sub_sub]
theorem i_assoc_add (a b c : Int32) : a + b + c = a + (b + c) := Int32.add_assoc a b c
/-- a year leaves what the reckoning bears -/
theorem okW_year {f : Nat → Int32} (h : okW f) (h4 : f 4 = 0) : okW (yearW f) := by
  intro h9
  obtain ⟨⟨a, ha, ha1, ha2⟩, ⟨b, hb, hb1⟩, c, hc, hc1, hc2⟩ := h h4
  have e99 : ¬ f 0 = 99 := by
    intro q
    simp [yearW, q] at h9
  have hne : a ≠ 99 := by
    intro q
    rw [ha, q] at e99
    exact e99 rfl
  refine ⟨⟨a + 1, ?_, by omega, by omega⟩, ?_, c, ?_, hc1, hc2⟩
  · simp [yearW, ha, nI_1]
  · by_cases h2 : f 2 = 0
    · exact ⟨b, by simp [yearW, h2]; rw [← hb, h2], hb1⟩
    · have hb0 : b ≠ 0 := by
        intro q
        rw [q] at hb
        exact h2 hb
      refine ⟨b - 1, ?_, by omega⟩
      simp [yearW, h2]
      rw [hb, show (1 : Int32) = nI 1 from rfl, n_sub (by omega)]
  · simp [yearW, hc]
theorem okW_yW {n : Nat} {W : Nat → Nat → Int32} (h : ∀ k, k < n → okW (W k)) : ∀ k, k < n → okW (yW n W k) := by
  intro k hk
  by_cases h4 : W k 4 = 0
  · simp only [yW, hk, h4, and_self, if_true]
    exact okW_year (h k hk) h4
  · simp only [yW, h4, and_false, if_false]
    exact h k hk
theorem okW_iter {r0 : Int32} {n : Nat} {S : YS} (h : ∀ k, k < n → okW (S.2.2.2 k)) : ∀ y k, k < n → okW ((yIter r0 n y S).2.2.2 k)
  | 0 => h
  | y + 1 => okW_yW (okW_iter h y)
theorem yW_0 (W : Nat → Nat → Int32) : yW 0 W = W := by
  funext k
  simp [yW]
theorem yW_no {W : Nat → Nat → Int32} {j : Nat} (h : ¬ W j 4 = 0) : yW (j + 1) W = yW j W := by
  funext k
  by_cases e : k = j
  · subst e
    simp [yW, h]
  · simp [yW, show (k < j + 1 ↔ k < j) by omega]
theorem yW_yes {W : Nat → Nat → Int32} {j : Nat} (h : W j 4 = 0) : yW (j + 1) W = upW (yW j W) j (yearW (W j)) := by
  funext k
  by_cases e : k = j
  · subst e
    simp [yW, upW, h]
  · simp [yW, upW, e, show (k < j + 1 ↔ k < j) by omega]
theorem due_no {W : Nat → Nat → Int32} {j : Nat} (h : ¬ W j 4 = 0) : sm (dueF W) (j + 1) = sm (dueF W) j := by simp [sm, dueF, h]
theorem due_yes {W : Nat → Nat → Int32} {j : Nat} (h : W j 4 = 0) : sm (dueF W) (j + 1) = sm (dueF W) j + (if W j 2 = 0 then W j 1 else 0) := by simp [sm, dueF, h]
theorem ne_99 {x : Int32} (h : x + 1 ≤ 99) : ¬ x = 99 := by
  intro q
  subst q
  exact absurd h (by decide)
theorem is_99 {x : Int32} {a : Nat} (ha : x = nI a) (h2 : a ≤ 99) (h : ¬ x + 1 ≤ 99) : x = 99 := by
  subst ha
  rw [nI_1] at h
  have h1 : ¬ a + 1 ≤ 99 := fun q => h ((le_nI (a := a + 1) (b := 99) (by omega)).mpr q)
  rw [show a = 99 by omega]
  rfl
theorem zero_le {x : Int32} {b : Nat} (hb : x = nI b) (h : b ≤ 30) (h2 : x ≤ 0) : x = 0 := by
  subst hb
  have h1 : b ≤ 0 := (le_nI (a := b) (b := 0) (by omega)).mp h2
  rw [show b = 0 by omega]
  rfl
