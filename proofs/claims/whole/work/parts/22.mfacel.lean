/-! new cells of the reference: where they lie in the world, and how they are put in or left out -/
theorem cls_int {dC : Nat → ClassId} {dI : Nat → Nat → Nat} {cI cW cA : ClassId} {s : State} (h : va_K (dC, dI) vwCl (TY cI cW ++ [(cA, .int)]) s) : cA = cI := by
  have h1 := (h.2 0 (cI, .int) rfl).2
  have h2 := (h.2 2 (cA, .int) rfl).2
  exact Option.some.inj (Eq.trans (Eq.symm h2) h1)
theorem perm_tail {α : Type} (a b : List α) (x : α) : ((a ++ b) ++ [x]).Perm (a ++ (x :: b)) := by
  rw [List.append_assoc]
  exact List.Perm.append_left a (List.perm_append_comm (l₁ := b) (l₂ := [x]))
theorem va_P_tl {D : va_G} {cl : List vw_C} {H : Heap} {x : Nat × va_E} {w : va_W} (h : va_P D cl (x :: w) H) : va_P D cl w H := fun k q hk => h (k + 1) q hk
theorem va_D_tl {A : Nat → Prop} {x : Nat × va_E} {w : va_W} (h : va_D A (x :: w)) : va_D A w := by
  have h1 := va_D_iff.mp h
  exact va_D_iff.mpr ⟨(List.pairwise_cons.mp h1.1).2, fun q hq => h1.2 q (List.mem_cons_of_mem _ hq)⟩
theorem va_P_drop {D : va_G} {cl : List vw_C} {H : Heap} {a b : va_W} {x : Nat × va_E} (h : va_P D cl (a ++ (x :: b)) H) : va_P D cl (a ++ b) H := va_P_tl (va_P_perm List.perm_middle h)
theorem va_D_drop {A : Nat → Prop} {a b : va_W} {x : Nat × va_E} (h : va_D A (a ++ (x :: b))) : va_D A (a ++ b) := va_D_tl (va_D_perm List.perm_middle h)
theorem perm_fs {α : Type} (o r d x3 x4 w c2 c1 : α) (R : List α) : (o :: r :: d :: x3 :: x4 :: w :: c2 :: c1 :: R).Perm (x3 :: x4 :: o :: r :: d :: c1 :: c2 :: w :: R) := by
  have h1 : ([o, r, d] ++ x3 :: (x4 :: w :: c2 :: c1 :: R)).Perm (x3 :: ([o, r, d] ++ (x4 :: w :: c2 :: c1 :: R))) := List.perm_middle
  have h2 : ([o, r, d] ++ x4 :: (w :: c2 :: c1 :: R)).Perm (x4 :: ([o, r, d] ++ (w :: c2 :: c1 :: R))) := List.perm_middle
  have h3 : (w :: c2 :: c1 :: R).Perm (c1 :: c2 :: w :: R) := by
    have h4 : ([w, c2] ++ c1 :: R).Perm (c1 :: ([w, c2] ++ R)) := List.perm_middle
    exact h4.trans (List.Perm.cons c1 (List.Perm.swap c2 w R))
  exact h1.trans (List.Perm.cons x3 (h2.trans (List.Perm.cons x4 (List.Perm.append_left [o, r, d] h3))))
def M34 (M : Nat → Nat) (u : Nat × Nat) : Nat → Nat := fun k => if k = 3 then u.1 else if k = 4 then u.2 else M k
theorem cpy_row (f : Nat → Int32) (W : Nat → Nat → Int32) (n : Nat) (g : Nat → Int32) (h : ∀ i, i < 7 → f i = g i) : va_cpy f (rowsF W) 0 (7 * n) 7 = rowsF (upW W n g) := by
  funext k
  unfold va_cpy rowsF upW
  by_cases e : k / 7 = n
  · rw [if_pos (by omega), if_pos e, show 0 + (k - 7 * n) = k % 7 by omega]
    exact h _ (by omega)
  · rw [if_neg (by omega), if_neg e]
theorem cpy_all (f : Nat → Int32) (N : Nat) : ∀ k, k < N → va_cpy f (fun _ => 0) 0 0 N k = f k := fun k hk => by
  unfold va_cpy
  rw [if_pos (by omega)]
  congr 1
  omega
theorem snoc_at {ws : va_W} {x : Nat × va_E} : (ws ++ [x])[ws.length]? = some x := by simp
theorem snoc_set {ws : va_W} {x y : Nat × va_E} : (ws ++ [x]).set ws.length y = ws ++ [y] := by simp
theorem snoc_l {ws : va_W} {x y : Nat × va_E} {q : Nat} (h : ws[q]? = some y) : (ws ++ [x])[q]? = some y := by
  have hl : q < ws.length := (List.getElem?_eq_some_iff.mp h).1
  rw [List.getElem?_append_left hl]; exact h
theorem upd_upd (f : Nat → Int32) (i : Nat) (x y : Int32) : upd (upd f i x) i y = upd f i y := by
  funext k
  by_cases h : k = i <;> simp [upd, h]
theorem upd_self (f : Nat → Int32) (i : Nat) : upd f i (f i) = f := by
  funext k
  by_cases h : k = i <;> simp [upd, h]
theorem nI_sub1 (n : Nat) : nI (n + 1) - 1 = nI n := nI_pred n
