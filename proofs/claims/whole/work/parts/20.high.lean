/-! the reference's table of greatest rates, a static array that nobody writes -/
def highF (k : Nat) : Int32 := if k = 0 then 200 else 50
def HG (t : Nat) (A : Nat → Prop) (U : State) (H : Heap) : Prop := va_Z "WidowPenniesModel" "HIGH" "[I" (.ref t) A U H ∧ va_T .int t 3 (fun j => .int (highF j)) A U H
theorem HG.moved {t : Nat} {A : Nat → Prop} {u U : State} {H : Heap} (hvm : u.vm.Alike U.vm) (h : HG t A u H) : HG t A U H := ⟨h.1.moved hvm, h.2.moved hvm⟩
theorem HG.kept {t : Nat} {A : Nat → Prop} {U : State} {H H1 : Heap} (h : HG t A U H) (hq : ∀ a : Nat, a < H.size → ¬ A a → H1[a]? = H[a]?) : HG t A U H1 := ⟨h.1.kept hq, h.2.kept hq⟩
theorem HG.narrow {t : Nat} {A B : Nat → Prop} {U : State} {H : Heap} (h : HG t A U H) (hAB : ∀ q, B q → A q) : HG t B U H := ⟨h.1.narrow hAB, h.2.narrow hAB⟩
def PreH (dC : Nat → ClassId) (dI : Nat → Nat → Nat) (cI cW : ClassId) (t : Nat) (av : List Value) (ws : va_W) (sz : Nat) : Array Value → State → Prop :=
  va_Pc av (fun U => U.heap.size = sz ∧ va_P (dC, dI) vwCl ws U.heap ∧ va_D (fun _ => True) ws ∧ KK dC dI cI cW U ∧ HG t (va_A ws sz) U U.heap)
theorem PreH_blind {dC : Nat → ClassId} {dI : Nat → Nat → Nat} {cI cW : ClassId} {t : Nat} {av : List Value} {ws : va_W} {sz : Nat} : FrameBlind (PreH dC dI cI cW t av ws sz) :=
  fun a U g mk h => ⟨h.1, h.2.1, h.2.2.1, h.2.2.2.1, h.2.2.2.2.1.calling g mk a, h.2.2.2.2.2.moved (Vm.Alike.refl U.vm)⟩
theorem WT_zero (d : Nat → Int32) (i : Int32) : ∀ j, ¬ (j < 1581 ∧ j % 51 < 50) → WT d i j = 0 := fun j h => by
  unfold WT
  rw [if_neg h]
theorem wid_in2 {k n : Nat} (h : k < n) (hn : n ≤ 10) : 0 ≤ nI k ∧ nI k ≤ nI n - 1 := by
  rw [show (1 : Int32) = nI 1 from rfl, n_sub (by omega)]
  exact ⟨(le_nI (a := 0) (by omega)).mpr (Nat.zero_le _), (le_nI (by omega)).mpr (by omega)⟩
theorem wid_lt {a : Int32} {n : Nat} (hn : n ≤ 10) (h : 0 ≤ a ∧ a ≤ nI n - 1) : 0 ≤ a ∧ a < nI n := by
  refine ⟨h.1, ?_⟩
  have h1 := h.1
  have h2 := h.2
  rw [i_le] at h1 h2
  rw [i_lt, nI_toInt (by omega)]
  have e := i_sub (x := nI n) (y := 1) (by rw [nI_toInt (by omega)]; show _ ≤ (n : Int) - 1; omega) (by rw [nI_toInt (by omega)]; show (n : Int) - 1 < _; omega)
  rw [e, nI_toInt (by omega)] at h2
  have e1 : (1 : Int32).toInt = 1 := by decide
  have e0 : (0 : Int32).toInt = 0 := by decide
  omega
theorem int_in {k lo hi : Nat} (h1 : lo ≤ k) (h2 : k ≤ hi) (h : hi < 2147483648) : nI lo ≤ nI k ∧ nI k ≤ nI hi := ⟨(le_nI (by omega)).mpr h1, (le_nI (by omega)).mpr h2⟩
theorem upd_comm (f : Nat → Int32) {i j : Nat} (h : i ≠ j) (x y : Int32) : upd (upd f i x) j y = upd (upd f j y) i x := by
  funext k
  by_cases h1 : k = i
  · subst h1
    simp [upd, h]
  · by_cases h2 : k = j
    · subst h2
      simp [upd, h1]
    · simp [upd, h1, h2]
