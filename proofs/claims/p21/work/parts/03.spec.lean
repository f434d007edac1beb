/-! the mathematical value: tables, worths, a widow's row, a book -/
/-- the worth in thousandths, n years below 100, put off by late years -/
def wN (d : Nat → Int32) (i : Int32) : Nat → Nat → Int32
  | 0, _ => 0
  | n + 1, 0 => (1000 - d (49 - n)) * (1000 + wN d i n 0) / (1000 + i)
  | n + 1, late + 1 => (1000 - d (49 - n)) * wN d i n late / (1000 + i)
def dAt (d : Nat → Int32) (a : Int32) : Int32 := if 50 ≤ a ∧ a ≤ 99 then d (a - 50).toNatClampNeg else 1000
def inB (a lo hi : Int32) : Int32 := if lo ≤ a ∧ a ≤ hi then 1 else 0
abbrev row (f : Nat → Int32) : List Value := [.int (f 0), .int (f 1), .int (f 2), .int (f 3), .int (f 4), .int (f 5), .int (f 6)]
def keptS (d : Nat → Int32) (i : Int32) (f : Nat → Int32) : Int32 := if f 4 = 0 then f 1 * wN d i (100 - (f 0).toNatClampNeg) (f 2).toNatClampNeg / 1000 else 0
def priceS (r1 sum w : Int32) : Int32 := if w = 0 then 0 else if sum * w / 1000 + sum * w / 1000 * r1 / 100 < 1 then 1 else sum * w / 1000 + sum * w / 1000 * r1 / 100
def backS (d : Nat → Int32) (r : Nat → Int32) (f : Nat → Int32) : Int32 := if f 4 = 0 ∧ 2 ≤ f 3 then keptS d (r 0) f - keptS d (r 0) f * r 2 / 100 else 0
def tellS (d : Nat → Int32) (r : Nat → Int32) (f : Nat → Int32) (what : Nat) : Int32 := if what = 5 then keptS d (r 0) f else if what = 6 then f 5 else if what = 7 then f 6 else if what = 8 then backS d r f else f what
/-- a widow who is alive has an age, a sum and years to wait that the reckoning bears -/
def okW (f : Nat → Int32) : Prop := f 4 = 0 → (∃ a : Nat, f 0 = nI a ∧ 50 ≤ a ∧ a ≤ 99) ∧ (∃ b : Nat, f 2 = nI b ∧ b ≤ 30) ∧ ∃ c : Nat, f 1 = nI c ∧ 1 ≤ c ∧ c ≤ 999
def aliveS (d : Nat → Int32) (k : Nat) : Nat → Int32
  | 0 => 1000
  | n + 1 => aliveS d k n * (1000 - d (k + n)) / 1000
/-- comparisons in whole numbers -/
theorem i_le (a b : Int32) : a ≤ b ↔ a.toInt ≤ b.toInt := Int32.le_iff_toInt_le
theorem i_lt (a b : Int32) : a < b ↔ a.toInt < b.toInt := Int32.lt_iff_toInt_lt
theorem i_eq (a b : Int32) : a = b ↔ a.toInt = b.toInt := Int32.toInt_inj.symm
theorem i_rng (x : Int32) : -2147483648 ≤ x.toInt ∧ x.toInt < 2147483648 := by
  have h1 := x.le_toInt
  have h2 := x.toInt_lt
  omega
theorem i_bmod {z : Int} (h1 : -2147483648 ≤ z) (h2 : z < 2147483648) : z.bmod (2 ^ 32) = z := by
  rw [Int.bmod_def]
  omega
theorem i_add {x y : Int32} (h1 : -2147483648 ≤ x.toInt + y.toInt) (h2 : x.toInt + y.toInt < 2147483648) : (x + y).toInt = x.toInt + y.toInt := by
  rw [Int32.toInt_add]; exact i_bmod h1 h2
theorem i_sub {x y : Int32} (h1 : -2147483648 ≤ x.toInt - y.toInt) (h2 : x.toInt - y.toInt < 2147483648) : (x - y).toInt = x.toInt - y.toInt := by
  rw [Int32.toInt_sub]; exact i_bmod h1 h2
theorem i_mul {x y : Int32} (h1 : -2147483648 ≤ x.toInt * y.toInt) (h2 : x.toInt * y.toInt < 2147483648) : (x * y).toInt = x.toInt * y.toInt := by
  rw [Int32.toInt_mul]; exact i_bmod h1 h2
theorem n_sub {a b : Nat} (h : b ≤ a) : nI a - nI b = nI (a - b) := pk_sub h
theorem clamp_nI {a : Nat} (h : a < 2147483648) : (nI a).toNatClampNeg = a := nI_clamp (by omega)
/-- a number of 0 to n is one of nI -/
theorem of_rng {x : Int32} (lo hi : Nat) (h1 : nI lo ≤ x) (h2 : x ≤ nI hi) (hh : hi < 2147483648) (hl : lo ≤ hi) : ∃ k : Nat, x = nI k ∧ lo ≤ k ∧ k ≤ hi := by
  have e1 := nI_toInt (n := lo) (by omega)
  have e2 := nI_toInt (n := hi) (by omega)
  rw [i_le] at h1 h2
  rw [e1] at h1
  rw [e2] at h2
  refine ⟨x.toInt.toNat, ?_, by omega, by omega⟩
  rw [i_eq, nI_toInt (by omega)]
  omega
theorem wN_late (d : Nat → Int32) (i : Int32) : ∀ n late, n ≤ late → wN d i n late = 0
  | 0, _, _ => by simp [wN]
  | n + 1, 0, h => absurd h (by omega)
  | n + 1, late + 1, h => by
    rw [wN, wN_late d i n late (by omega)]
    simp
theorem b0 {P : Prop} [Decidable P] : ((if P then (1 : Int32) else 0) = 0) ↔ ¬ P := by
  by_cases h : P <;> simp [h]
theorem b1 {P : Prop} [Decidable P] : ¬ ((if P then (1 : Int32) else 0) = 0) ↔ P := by
  by_cases h : P <;> simp [h]
theorem nilP {D : va_G} {cl : List vw_C} {H : Heap} : va_P D cl [] H := fun k q h => by simp at h
theorem in_age {a : Int32} (h : 50 ≤ a ∧ a ≤ 99) : vp_in (a - 50) 50 := by
  obtain ⟨k, rfl, h1, h2⟩ := of_rng (x := a) 50 99 h.1 h.2 (by omega) (by omega)
  rw [show (50 : Int32) = nI 50 from rfl, n_sub h1]
  exact vp_in_nI (by omega) (by omega)
theorem lt_nI {a b : Nat} (h : a < 2147483648 ∧ b < 2147483648) : nI a < nI b ↔ a < b := nI_ltI (by omega) (by omega)
theorem le_nI {a b : Nat} (h : a < 2147483648 ∧ b < 2147483648) : nI a ≤ nI b ↔ a ≤ b := nI_leI (by omega) (by omega)
theorem dec_nI {a b : Nat} (h : a = b + 1) : nI a + Int32.ofInt (-1) = nI b := by subst h; exact pk_m1 b
theorem hl_to {ls : Array Slot} {n : Nat} {a b : List (Nat × Value)} (h : a = b) (hl : lv_has ls n a) : lv_has ls n b := h ▸ hl
theorem dAt_nI (d : Nat → Int32) {a : Nat} (h1 : 50 ≤ a) (h2 : a ≤ 99) : dAt d (nI a) = d (a - 50) := by
  unfold dAt
  rw [if_pos ⟨(le_nI (a := 50) (by omega)).mpr h1, (le_nI (b := 99) (by omega)).mpr h2⟩, show (50 : Int32) = nI 50 from rfl, n_sub h1, clamp_nI (by omega)]
theorem wN_paid (d : Nat → Int32) (i : Int32) {ka kb j : Nat} (h1 : 50 ≤ ka) (h : j < 100 - ka) (hp : ka + kb ≤ 99 - j) : (1000 - dAt d (nI (99 - j))) * (1000 + wN d i j (kb - (100 - ka - j))) / (1000 + i) = wN d i (j + 1) (kb - (100 - ka - (j + 1))) := by
  rw [show kb - (100 - ka - (j + 1)) = 0 by omega, show kb - (100 - ka - j) = 0 by omega, dAt_nI d (by omega) (by omega), show 99 - j - 50 = 49 - j by omega, wN]
theorem wN_free (d : Nat → Int32) (i : Int32) {ka kb j : Nat} (h1 : 50 ≤ ka) (h : j < 100 - ka) (hp : 99 - j < ka + kb) : (1000 - dAt d (nI (99 - j))) * (0 + wN d i j (kb - (100 - ka - j))) / (1000 + i) = wN d i (j + 1) (kb - (100 - ka - (j + 1))) := by
  rw [show kb - (100 - ka - (j + 1)) = (kb - (100 - ka - j)) + 1 by omega, dAt_nI d (by omega) (by omega), show 99 - j - 50 = 49 - j by omega, wN]
  simp
/-- the greatest k up to n of which P says yes; 0 without one -/
def dnS (P : Nat → Bool) : Nat → Nat
  | 0 => 0
  | n + 1 => if P (n + 1) then n + 1 else dnS P n
theorem dnS_le (P : Nat → Bool) : ∀ n, dnS P n ≤ n
  | 0 => Nat.le_refl 0
  | n + 1 => by
    rw [dnS]
    have ih := dnS_le P n
    split <;> omega
theorem dnS_ge {P : Nat → Bool} : ∀ {n k : Nat}, k ≤ n → P k = true → k ≤ dnS P n
  | 0, k, h, _ => h
  | n + 1, k, h, hp => by
    rw [dnS]
    by_cases hq : P (n + 1) = true
    · rw [if_pos hq]; exact h
    · rw [if_neg hq]
      rcases Nat.lt_or_ge n k with g | g
      · rw [show k = n + 1 by omega] at hp
        exact absurd hp hq
      · exact dnS_ge g hp
theorem dnS_yes {P : Nat → Bool} : ∀ {n : Nat}, 0 < dnS P n → P (dnS P n) = true
  | 0, h => absurd h (Nat.lt_irrefl 0)
  | n + 1, h => by
    by_cases hq : P (n + 1) = true
    · rw [dnS, if_pos hq]; exact hq
    · rw [dnS, if_neg hq] at h ⊢
      exact dnS_yes h
def gS (r1 x money : Int32) : Nat := dnS (fun k => decide (priceS r1 (nI k) x ≤ money)) 999
theorem gS_ge {r1 x money : Int32} {k : Nat} (hk : k ≤ 999) (h : priceS r1 (nI k) x ≤ money) : k ≤ gS r1 x money := dnS_ge hk (decide_eq_true h)
theorem gS_lt {r1 x money : Int32} (hm : ∀ k : Nat, k < 999 → priceS r1 (nI (k + 1)) x ≤ money → priceS r1 (nI k) x ≤ money) {k : Nat} (h0 : 0 < k) (hk : k ≤ 999) (h : ¬ priceS r1 (nI k) x ≤ money) : gS r1 x money < k := by
  have down : ∀ n j : Nat, j + n ≤ 999 → priceS r1 (nI (j + n)) x ≤ money → priceS r1 (nI j) x ≤ money := by
    intro n
    induction n with
    | zero => intro j _ hj; exact hj
    | succ n ih => intro j hj hp; exact ih j (by omega) (hm (j + n) (by omega) hp)
  rcases Nat.lt_or_ge (gS r1 x money) k with g | g
  · exact g
  · exfalso
    have hy : priceS r1 (nI (gS r1 x money)) x ≤ money := of_decide_eq_true (dnS_yes (P := fun k => decide (priceS r1 (nI k) x ≤ money)) (n := 999) (show 0 < gS r1 x money by omega))
    have hle : gS r1 x money ≤ 999 := dnS_le _ _
    have e : gS r1 x money = k + (gS r1 x money - k) := by omega
    rw [e] at hy
    exact h (down _ _ (by omega) hy)
