/-! a world in another order -/
theorem va_D_iff {A : Nat → Prop} {ws : va_W} : va_D A ws ↔ ws.Pairwise (fun p q => p.1 ≠ q.1) ∧ ∀ q ∈ ws, A q.1 := by
  constructor
  · intro h
    refine ⟨List.pairwise_iff_getElem.mpr fun i j hi hj hij e => ?_, fun q hq => ?_⟩
    · have := h.1 i j _ _ (List.getElem?_eq_getElem hi) (List.getElem?_eq_getElem hj) e
      omega
    · obtain ⟨k, hk⟩ := List.getElem?_of_mem hq
      exact h.2 k q hk
  · intro h
    refine ⟨fun i j p q hi hj e => ?_, fun k q hk => h.2 q (List.mem_of_getElem? hk)⟩
    obtain ⟨hi1, hi2⟩ := List.getElem?_eq_some_iff.mp hi
    obtain ⟨hj1, hj2⟩ := List.getElem?_eq_some_iff.mp hj
    have hp := List.pairwise_iff_getElem.mp h.1
    rcases Nat.lt_trichotomy i j with z | z | z
    · exact absurd (by rw [hi2, hj2]; exact e) (hp i j hi1 hj1 z)
    · exact z
    · exact absurd (by rw [hi2, hj2]; exact e.symm) (hp j i hj1 hi1 z)
theorem va_D_perm {A : Nat → Prop} {ws ws' : va_W} (h : ws.Perm ws') (hD : va_D A ws) : va_D A ws' := by
  have h1 := va_D_iff.mp hD
  exact va_D_iff.mpr ⟨h.pairwise h1.1 (fun e => e.symm), fun q hq => h1.2 q (h.mem_iff.mpr hq)⟩
theorem va_P_perm {D : va_G} {cl : List vw_C} {H : Heap} {ws ws' : va_W} (h : ws.Perm ws') (hP : va_P D cl ws H) : va_P D cl ws' H := by
  intro k q hk
  obtain ⟨i, hi⟩ := List.getElem?_of_mem (h.mem_iff.mpr (List.mem_of_getElem? hk))
  exact hP i q hi
/-- the class's whole world: tables, the book, the trial, the object itself -/
abbrev tri (cW : ClassId) (X Br : Nat → Nat) (n' : Nat) (ch' pd' pr' yr' : Int32) (W' : Nat → Nat → Int32) : va_W := bk cW X Br n' ch' pd' pr' yr' W'
abbrev obj (X : Nat → Nat) (Bk Br : Nat → Nat) : Nat × va_E := (X 0, .inr (3, [.ref (X 1), .ref (Bk 0), .ref (Br 0)]))
theorem swap_books (a b c d : va_W) : (a ++ (b ++ (c ++ d))).Perm (a ++ (c ++ (b ++ d))) := by
  apply List.Perm.append_left
  rw [← List.append_assoc, ← List.append_assoc]
  exact List.Perm.append_right d List.perm_append_comm
/-- a widow of the second book, behind the first -/
theorem bw2_at {cI cW : ClassId} {X Bk Br : Nat → Nat} {d r : Nat → Int32} {n n2 : Nat} {ch pd pr yr ch2 pd2 pr2 yr2 : Int32} {Wd W2 : Nat → Nat → Int32} {R : va_W} {k : Nat} (h : k < 10) :
    (tab cI X d r ++ (bk cW X Bk n ch pd pr yr Wd ++ (bk cW X Br n2 ch2 pd2 pr2 yr2 W2 ++ R)))[k + 17]? = some (Br (k + 2), .inr (2, row (W2 k))) := by
  show (wl Bk Wd ++ (bk cW X Br n2 ch2 pd2 pr2 yr2 W2 ++ R))[k + 12]? = _
  rw [List.getElem?_append_right (by rw [wl_len]; omega), wl_len, show k + 12 - 10 = k + 2 by omega]
  show (wl Br W2 ++ R)[k]? = _
  rw [List.getElem?_append_left (by rw [wl_len]; exact h)]
  exact wl_at h
theorem bw2_obj {cI cW : ClassId} {X Bk Br : Nat → Nat} {d r : Nat → Int32} {n n2 : Nat} {ch pd pr yr ch2 pd2 pr2 yr2 : Int32} {Wd W2 : Nat → Nat → Int32} {R : va_W} :
    (tab cI X d r ++ (bk cW X Bk n ch pd pr yr Wd ++ (bk cW X Br n2 ch2 pd2 pr2 yr2 W2 ++ R)))[15]? = some (Br 0, .inr (0, [.ref (X 1), .ref (Br 1), .int (nI n2), .int ch2, .int pd2, .int pr2, .int yr2])) := by
  show (wl Bk Wd ++ (bk cW X Br n2 ch2 pd2 pr2 yr2 W2 ++ R))[10]? = _
  rw [List.getElem?_append_right (by rw [wl_len]; omega), wl_len]
  rfl
theorem bw2_arr {cI cW : ClassId} {X Bk Br : Nat → Nat} {d r : Nat → Int32} {n n2 : Nat} {ch pd pr yr ch2 pd2 pr2 yr2 : Int32} {Wd W2 : Nat → Nat → Int32} {R : va_W} :
    (tab cI X d r ++ (bk cW X Bk n ch pd pr yr Wd ++ (bk cW X Br n2 ch2 pd2 pr2 yr2 W2 ++ R)))[16]? = some (Br 1, .inl (cW, 10, .inr (.inr (.inr (.inr (fun k => some (Br (k + 2)))))))) := by
  show (wl Bk Wd ++ (bk cW X Br n2 ch2 pd2 pr2 yr2 W2 ++ R))[11]? = _
  rw [List.getElem?_append_right (by rw [wl_len]; omega), wl_len]
  rfl
/-- up to j the one book's widows, from there the other's -/
def cpW (W W2 : Nat → Nat → Int32) (j : Nat) : Nat → Nat → Int32 := fun k => if k < j then W2 k else W k
theorem cpW_0 (W W2 : Nat → Nat → Int32) : cpW W W2 0 = W := by
  funext k
  simp [cpW]
theorem cpW_put (W W2 : Nat → Nat → Int32) (j : Nat) : upW (cpW W W2 j) j (W2 j) = cpW W W2 (j + 1) := by
  funext k
  by_cases e : k = j
  · subst e; simp [upW, cpW]
  · simp [upW, cpW, e, show (k < j + 1 ↔ k < j) by omega]
theorem cpW_10 (B : Nat → Nat) (W W2 : Nat → Nat → Int32) : wl B (cpW W W2 10) = wl B W2 := wl_congr (fun k hk => by simp [cpW, hk])
abbrev prcF (Wd : Nat → Nat → Int32) : Nat → Int32 := fun k => Wd k 6
theorem eq_99 {x : Int32} (h : x + 1 = 100) : x = 99 := by
  have e : x = x + 1 - 1 := (Int32.add_sub_cancel x 1).symm
  rw [e, h]
  decide
theorem bk_cp (cW : ClassId) (X B : Nat → Nat) (n : Nat) (ch pd pr yr : Int32) (W W2 : Nat → Nat → Int32) : bk cW X B n ch pd pr yr (cpW W W2 10) = bk cW X B n ch pd pr yr W2 := by
  unfold bk
  rw [cpW_10]
theorem cw_obj {cI cW : ClassId} {X Bk Br : Nat → Nat} {d r : Nat → Int32} {n n2 : Nat} {ch pd pr yr ch2 pd2 pr2 yr2 : Int32} {Wd W2 : Nat → Nat → Int32} {R : va_W} :
    (tab cI X d r ++ (bk cW X Bk n ch pd pr yr Wd ++ (bk cW X Br n2 ch2 pd2 pr2 yr2 W2 ++ (obj X Bk Br :: R))))[27]? = some (X 0, .inr (3, [.ref (X 1), .ref (Bk 0), .ref (Br 0)])) := by
  show (wl Bk Wd ++ (bk cW X Br n2 ch2 pd2 pr2 yr2 W2 ++ (obj X Bk Br :: R)))[22]? = _
  rw [List.getElem?_append_right (by rw [wl_len]; omega), wl_len]
  show (wl Br W2 ++ (obj X Bk Br :: R))[10]? = _
  rw [List.getElem?_append_right (by rw [wl_len]; omega), wl_len]
  rfl
