/-! the mean is equal to itself: no quotient of the ages and the number is a NaN -/
theorem cmp_free : (List.range 1000).all (fun a => (List.range 10).all (fun b => decide (Op.cmpValue (FP.dcmp (FP.ddiv (FP.i2d (nI a)) (FP.i2d (nI (b + 1)))) (FP.ddiv (FP.i2d (nI a)) (FP.i2d (nI (b + 1))))) .l = 0))) = true := by decide +kernel
theorem cmp_no {a b : Nat} (h : a < 1000) (h1 : 0 < b) (h2 : b ≤ 10) : Op.cmpValue (FP.dcmp (FP.ddiv (FP.i2d (nI a)) (FP.i2d (nI b))) (FP.ddiv (FP.i2d (nI a)) (FP.i2d (nI b)))) .l = 0 := by
  have h3 := List.all_eq_true.mp cmp_free a (List.mem_range.mpr h)
  have h4 := List.all_eq_true.mp h3 (b - 1) (List.mem_range.mpr (by omega))
  have h5 : Op.cmpValue (FP.dcmp (FP.ddiv (FP.i2d (nI a)) (FP.i2d (nI (b - 1 + 1)))) (FP.ddiv (FP.i2d (nI a)) (FP.i2d (nI (b - 1 + 1))))) .l = 0 := of_decide_eq_true h4
  rw [show b - 1 + 1 = b by omega] at h5
  exact h5
theorem mean_c0 {n : Nat} {Wd : Nat → Nat → Int32} (h : sm (alvF Wd) n = 0) : Op.cmpValue (FP.dcmp (meanS n Wd) 0) .l = 0 := by
  rw [meanS, if_pos h]
  decide +kernel
theorem mean_c1 {n : Nat} {Wd : Nat → Nat → Int32} (hn : n ≤ 10) (hok : ∀ k, k < n → okW (Wd k)) (h : ¬ sm (alvF Wd) n = 0) : Op.cmpValue (FP.dcmp (meanS n Wd) (FP.ddiv (FP.i2d (sm (ageF Wd) n)) (FP.i2d (sm (alvF Wd) n)))) .l = 0 := by
  rw [meanS, if_neg h]
  obtain ⟨L, h1, h2⟩ := alv_nI Wd n
  obtain ⟨G, h3, h4⟩ := age_nI hok
  rw [h2] at h ⊢
  rw [h4]
  refine cmp_no (by omega) ?_ (by omega)
  rcases Nat.eq_zero_or_pos L with z | z
  · subst z; exact absurd rfl h
  · exact z
/-! the two books in one world: parts of it, and how they are put in front -/
theorem siP0 {D : va_G} {cl : List vw_C} {H : Heap} {T K1 K2 S R : va_W} {o : Nat × va_E} (h : va_P D cl (T ++ (K1 ++ (K2 ++ (o :: (S ++ R))))) H) : va_P D cl S H := ws_left (va_P_tl (ws_right (ws_right (ws_right h))))
theorem siP1 {D : va_G} {cl : List vw_C} {H : Heap} {T K1 K2 F S R : va_W} {o : Nat × va_E} (h : va_P D cl (T ++ (K1 ++ (K2 ++ (o :: (F ++ (S ++ R)))))) H) : va_P D cl S H := ws_left (ws_right (va_P_tl (ws_right (ws_right (ws_right h)))))
theorem pm_in0 {α : Type} (T K1 K2 S R : List α) (o : α) : (T ++ (K1 ++ (K2 ++ (o :: (S ++ R))))).Perm (S ++ (T ++ (K1 ++ (K2 ++ (o :: R))))) := by
  have h : ((T ++ (K1 ++ (K2 ++ [o]))) ++ S ++ R).Perm (S ++ (T ++ (K1 ++ (K2 ++ [o]))) ++ R) := List.Perm.append_right R List.perm_append_comm
  simpa [List.append_assoc] using h
theorem pm_in1 {α : Type} (T K1 K2 F S R : List α) (o : α) : (T ++ (K1 ++ (K2 ++ (o :: (F ++ (S ++ R)))))).Perm (S ++ (T ++ (K1 ++ (K2 ++ (o :: (F ++ R)))))) := by
  have h : ((T ++ (K1 ++ (K2 ++ (o :: F)))) ++ S ++ R).Perm (S ++ (T ++ (K1 ++ (K2 ++ (o :: F)))) ++ R) := List.Perm.append_right R List.perm_append_comm
  simpa [List.append_assoc] using h
/-- a new cell, put behind the object -/
theorem pm_new {α : Type} (T K1 K2 Q : List α) (o x : α) : ((T ++ (K1 ++ (K2 ++ (o :: Q)))) ++ [x]).Perm (T ++ (K1 ++ (K2 ++ (o :: (x :: Q))))) := by
  have h : ((T ++ (K1 ++ (K2 ++ [o]))) ++ (Q ++ [x])).Perm ((T ++ (K1 ++ (K2 ++ [o]))) ++ ([x] ++ Q)) := List.Perm.append_left _ List.perm_append_comm
  simpa [List.append_assoc] using h
theorem pm_out {α : Type} (T K1 K2 F Q : List α) (o : α) : (T ++ (K1 ++ (K2 ++ (o :: (F ++ Q))))).Perm (F ++ (T ++ (K1 ++ (K2 ++ (o :: Q))))) := by
  have h : ((T ++ (K1 ++ (K2 ++ [o]))) ++ F ++ Q).Perm (F ++ (T ++ (K1 ++ (K2 ++ [o]))) ++ Q) := List.Perm.append_right Q List.perm_append_comm
  simpa [List.append_assoc] using h
theorem va_D_r {A : Nat → Prop} : ∀ {a b : va_W}, va_D A (a ++ b) → va_D A b
  | [], _, h => h
  | _ :: a, _, h => va_D_r (a := a) (va_D_tl h)
/-- cells behind the object are forgotten -/
theorem dropP {D : va_G} {cl : List vw_C} {H : Heap} {T K1 K2 F Q : va_W} {o : Nat × va_E} (h : va_P D cl (T ++ (K1 ++ (K2 ++ (o :: (F ++ Q))))) H) : va_P D cl (T ++ (K1 ++ (K2 ++ (o :: Q)))) H := ws_right (va_P_perm (pm_out T K1 K2 F Q o) h)
theorem dropD {A : Nat → Prop} {T K1 K2 F Q : va_W} {o : Nat × va_E} (h : va_D A (T ++ (K1 ++ (K2 ++ (o :: (F ++ Q)))))) : va_D A (T ++ (K1 ++ (K2 ++ (o :: Q)))) := va_D_r (va_D_perm (pm_out T K1 K2 F Q o) h)
theorem cw_at {cI cW : ClassId} {X Bk Br : Nat → Nat} {d r : Nat → Int32} {n n2 : Nat} {ch pd pr yr ch2 pd2 pr2 yr2 : Int32} {Wd W2 : Nat → Nat → Int32} {L : va_W} {k : Nat} {x : Nat × va_E} (h : L[k]? = some x) :
    (tab cI X d r ++ (bk cW X Bk n ch pd pr yr Wd ++ (bk cW X Br n2 ch2 pd2 pr2 yr2 W2 ++ L)))[27 + k]? = some x := by
  have h2 : (bk cW X Bk n ch pd pr yr Wd ++ (bk cW X Br n2 ch2 pd2 pr2 yr2 W2 ++ L))[12 + (12 + k)]? = some x := bk_over (bk_over h)
  have e : (27 + k : Nat) = (12 + (12 + k)) + 3 := by omega
  rw [e]
  exact h2
theorem cw_aset {cI cW : ClassId} {X Bk Br : Nat → Nat} {d r : Nat → Int32} {n n2 : Nat} {ch pd pr yr ch2 pd2 pr2 yr2 : Int32} {Wd W2 : Nat → Nat → Int32} {L : va_W} {k : Nat} {x : Nat × va_E} :
    List.set (tab cI X d r ++ (bk cW X Bk n ch pd pr yr Wd ++ (bk cW X Br n2 ch2 pd2 pr2 yr2 W2 ++ L))) (27 + k) x = tab cI X d r ++ (bk cW X Bk n ch pd pr yr Wd ++ (bk cW X Br n2 ch2 pd2 pr2 yr2 W2 ++ L.set k x)) := by
  have e : (27 + k : Nat) = (12 + (12 + k)) + 3 := by omega
  rw [e]
  show tab cI X d r ++ List.set (bk cW X Bk n ch pd pr yr Wd ++ (bk cW X Br n2 ch2 pd2 pr2 yr2 W2 ++ L)) (12 + (12 + k)) x = _
  rw [bk_oset, bk_oset]
