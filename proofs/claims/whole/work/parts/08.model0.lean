/-! the reference's world -/
def rowsF (W : Nat → Nat → Int32) : Nat → Int32 := fun j => W (j / 7) (j % 7)
def numF (yr ch pd : Int32) : Nat → Int32 := fun k => if k = 0 then yr else if k = 1 then ch else if k = 2 then pd else 0
/-- the table of worths as it is reckoned -/
def WT (d : Nat → Int32) (i : Int32) : Nat → Int32 := fun j => if j < 1581 ∧ j % 51 < 50 then wN d i (50 - j % 51) (j / 51) else 0
abbrev mw (cI : ClassId) (M : Nat → Nat) (th : Int32) (n : Nat) (d r : Nat → Int32) (W : Nat → Nat → Int32) (ch pd yr : Int32) (T : Nat → Int32) : va_W :=
  [(M 0, .inr (4, [.int th, .int (nI n), .ref (M 1), .ref (M 2), .ref (M 3), .ref (M 4), .ref (M 5)])), (M 1, .inl (cI, 3, .inl r)), (M 2, .inl (cI, 50, .inl d)), (M 3, .inl (cI, 70, .inl (rowsF W))), (M 4, .inl (cI, 3, .inl (numF yr ch pd))), (M 5, .inl (cI, 1581, .inl T))]
theorem rowsF_at (W : Nat → Nat → Int32) {k f : Nat} (hf : f < 7) : rowsF W (7 * k + f) = W k f := by
  unfold rowsF
  rw [show (7 * k + f) / 7 = k by omega, show (7 * k + f) % 7 = f by omega]
theorem rowsF_upd (W : Nat → Nat → Int32) {k f : Nat} (hf : f < 7) (x : Int32) : upd (rowsF W) (7 * k + f) x = rowsF (upW W k (upd (W k) f x)) := by
  funext j
  unfold rowsF upW upd
  by_cases h : j = 7 * k + f
  · subst h
    simp [show (7 * k + f) / 7 = k by omega, show (7 * k + f) % 7 = f by omega]
  · rw [if_neg h]
    by_cases hk : j / 7 = k
    · rw [if_pos hk, if_neg (by omega)]
      show W (j / 7) (j % 7) = W k (j % 7)
      rw [hk]
    · rw [if_neg hk]
theorem WT_at (d : Nat → Int32) (i : Int32) {ka kb : Nat} (h1 : 50 ≤ ka) (h2 : ka ≤ 99) (h3 : kb ≤ 30) : WT d i (51 * kb + ka - 50) = wN d i (100 - ka) kb := by
  have e1 : (51 * kb + ka - 50) % 51 = ka - 50 := by omega
  have e2 : (51 * kb + ka - 50) / 51 = kb := by omega
  unfold WT
  rw [if_pos ⟨by omega, by omega⟩, e1, e2, show 50 - (ka - 50) = 100 - ka by omega]
theorem numF_0 (yr ch pd : Int32) : numF yr ch pd 0 = yr := rfl
theorem numF_1 (yr ch pd : Int32) : numF yr ch pd 1 = ch := rfl
theorem numF_2 (yr ch pd : Int32) : numF yr ch pd 2 = pd := rfl
theorem numF_u0 (yr ch pd x : Int32) : upd (numF yr ch pd) 0 x = numF x ch pd := by
  funext k
  by_cases h : k = 0 <;> simp [upd, numF, h]
theorem numF_u1 (yr ch pd x : Int32) : upd (numF yr ch pd) 1 x = numF yr x pd := by
  funext k
  by_cases h : k = 1
  · subst h; simp [upd, numF]
  · simp [upd, numF, h]
theorem cell_congr {D : va_G} {cl : List vw_C} {A : Nat → Prop} {ws : va_W} {H : Heap} {i a n : Nat} {cA : ClassId} {f g : Nat → Int32} (hP : va_P D cl ws H) (hi : ws[i]? = some (a, .inl (cA, n, .inl f))) (h : ∀ k, k < n → f k = g k) : va_P D cl (ws.set i (a, .inl (cA, n, .inl g))) H := by
  intro k q hk
  by_cases e : i = k
  · subst e
    rw [set_at hi] at hk
    cases hk
    have h1 : H[a]? = some (vp_cell cA (n, .inl f)) := hP i _ hi
    show H[a]? = some (vp_cell cA (n, .inl g))
    have e9 : (fun j : Fin n => Value.int (f j.val)) = fun j : Fin n => Value.int (g j.val) := funext fun j => by rw [h j.val j.isLt]
    rw [h1, vp_cell_i, vp_cell_i]
    show some ({ cls := cA, slots := Array.ofFn (fun j : Fin n => Value.int (f j.val)), vm := .none } : Cell) = some ({ cls := cA, slots := Array.ofFn (fun j : Fin n => Value.int (g j.val)), vm := .none } : Cell)
    rw [e9]
  · rw [List.getElem?_set_ne e] at hk
    exact hP k q hk
theorem max_priceS (r1 x w : Int32) (h : ¬ w = 0) : (if (1 : Int32) < x * w / 1000 + x * w / 1000 * r1 / 100 then x * w / 1000 + x * w / 1000 * r1 / 100 else 1) = priceS r1 x w := by
  unfold priceS
  rw [if_neg h]
  by_cases q : (1 : Int32) < x * w / 1000 + x * w / 1000 * r1 / 100
  · rw [if_pos q, if_neg (fun z => absurd (Int32.lt_trans q z) Int32.lt_irrefl)]
  · rw [if_neg q]
    by_cases z : x * w / 1000 + x * w / 1000 * r1 / 100 < 1
    · rw [if_pos z]
    · rw [if_neg z]
      exact Int32.le_antisymm (Int32.not_lt.mp z) (Int32.not_lt.mp q)
def comeS (ch : Int32) (x : Int64) : Int32 := (if ch.toInt64 + x < 99999999 then ch.toInt64 + x else 99999999).toInt32
theorem numF_u2 (yr ch pd x : Int32) : upd (numF yr ch pd) 2 x = numF yr ch x := by
  funext k
  by_cases h : k = 2
  · subst h; simp [upd, numF]
  · simp [upd, numF, h]
theorem upW_at (W : Nat → Nat → Int32) (k : Nat) (g : Nat → Int32) : upW W k g k = g := by simp [upW]
theorem upW_upW (W : Nat → Nat → Int32) (k : Nat) (g h : Nat → Int32) : upW (upW W k g) k h = upW W k h := by
  funext j
  by_cases e : j = k <;> simp [upW, e]
theorem upW_self (W : Nat → Nat → Int32) (k : Nat) : upW W k (W k) = W := by
  funext j
  by_cases e : j = k <;> simp [upW, e]
/-- the table of worths, rows up to late done, and of the next row the last m -/
def MT (d : Nat → Int32) (i : Int32) (T : Nat → Int32) (late m : Nat) : Nat → Int32 := fun j => if j < 51 * late ∨ (j < 51 * late + 51 ∧ 51 * late + 50 ≤ j + m) then WT d i j else T j
theorem MT_0 (d : Nat → Int32) (i : Int32) {T : Nat → Int32} (h : ∀ j, ¬ (j < 1581 ∧ j % 51 < 50) → T j = 0) : MT d i T 0 0 = T := by
  funext j
  unfold MT
  by_cases e : j < 51 * 0 ∨ (j < 51 * 0 + 51 ∧ 51 * 0 + 50 ≤ j + 0)
  · rw [if_pos e, h j (by omega)]
    unfold WT
    rw [if_neg (by omega)]
  · rw [if_neg e]
theorem MT_row (d : Nat → Int32) (i : Int32) {T : Nat → Int32} (h : ∀ j, ¬ (j < 1581 ∧ j % 51 < 50) → T j = 0) (late : Nat) : MT d i T late 50 = MT d i T (late + 1) 0 := by
  funext j
  unfold MT
  by_cases e : j < 51 * (late + 1)
  · rw [if_pos (by omega), if_pos (by omega)]
  · rw [if_neg (by omega)]
    by_cases q : j < 51 * (late + 1) ∨ (j < 51 * (late + 1) + 51 ∧ 51 * (late + 1) + 50 ≤ j + 0)
    · rw [if_pos q, h j (by omega)]
      unfold WT
      rw [if_neg (by omega)]
    · rw [if_neg q]
theorem MT_end (d : Nat → Int32) (i : Int32) {T : Nat → Int32} (h : ∀ j, ¬ (j < 1581 ∧ j % 51 < 50) → T j = 0) : MT d i T 31 0 = WT d i := by
  funext j
  unfold MT
  by_cases e : j < 51 * 31 ∨ (j < 51 * 31 + 51 ∧ 51 * 31 + 50 ≤ j + 0)
  · rw [if_pos e]
  · rw [if_neg e, h j (by omega)]
    unfold WT
    rw [if_neg (by omega)]
/-- one more worth in the row late -/
theorem MT_put (d : Nat → Int32) (i : Int32) (T : Nat → Int32) {late m : Nat} (hl : late ≤ 30) (hm : m < 50) {x : Int32} (hx : x = WT d i (51 * late + (49 - m))) : upd (MT d i T late m) (51 * late + (49 - m)) x = MT d i T late (m + 1) := by
  funext j
  unfold upd
  by_cases e : j = 51 * late + (49 - m)
  · rw [if_pos e, hx, e]
    unfold MT
    rw [if_pos (by omega)]
  · rw [if_neg e]
    unfold MT
    by_cases q : j < 51 * late ∨ (j < 51 * late + 51 ∧ 51 * late + 50 ≤ j + m)
    · rw [if_pos q, if_pos (by omega)]
    · rw [if_neg q, if_neg (by omega)]
theorem WT_n (d : Nat → Int32) (i : Int32) {late m : Nat} (hl : late ≤ 30) (hm : m < 50) : WT d i (51 * late + (49 - m)) = wN d i (m + 1) late := by
  have e1 : (51 * late + (49 - m)) % 51 = 49 - m := by omega
  have e2 : (51 * late + (49 - m)) / 51 = late := by omega
  unfold WT
  rw [if_pos ⟨by omega, by omega⟩, e1, e2, show 50 - (49 - m) = m + 1 by omega]
theorem MT_next0 (d : Nat → Int32) (i : Int32) (T : Nat → Int32) {m : Nat} (hm : m < 50) : MT d i T 0 m (49 - m + 1) = wN d i m 0 := by
  unfold MT
  rw [if_pos (by omega)]
  rcases Nat.eq_zero_or_pos m with z | z
  · subst z
    unfold WT
    rw [if_neg (by omega), wN]
  · have := WT_n d i (late := 0) (m := m - 1) (by omega) (by omega)
    rw [show 51 * 0 + (49 - (m - 1)) = 49 - m + 1 by omega, show m - 1 + 1 = m by omega] at this
    exact this
theorem MT_next (d : Nat → Int32) (i : Int32) (T : Nat → Int32) {late m : Nat} (hl : late < 30) (hm : m < 50) : MT d i T (late + 1) m (51 * late + (49 - m) + 1) = wN d i m late := by
  unfold MT
  rw [if_pos (by omega)]
  rcases Nat.eq_zero_or_pos m with z | z
  · subst z
    unfold WT
    rw [if_neg (by omega), wN]
  · have := WT_n d i (late := late) (m := m - 1) (by omega) (by omega)
    rw [show 51 * late + (49 - (m - 1)) = 51 * late + (49 - m) + 1 by omega, show m - 1 + 1 = m by omega] at this
    exact this
theorem dec_sub {m : Nat} (h : m < 50) : nI (49 - m) + Int32.ofInt (-1) = nI 49 - nI (m + 1) := by
  rw [← n_sub (show m ≤ 49 by omega), nI_succ m, ← i_assoc_sub, Int32.sub_eq_add_neg (nI 49 - nI m) 1]
  rfl
