/-! small rows, out of whole's parts 08, 14, 22, 24 -/
def comeS (ch : Int32) (x : Int64) : Int32 := (if ch.toInt64 + x < 99999999 then ch.toInt64 + x else 99999999).toInt32
theorem upW_at (W : Nat → Nat → Int32) (k : Nat) (g : Nat → Int32) : upW W k g k = g := by simp [upW]
theorem upW_upW (W : Nat → Nat → Int32) (k : Nat) (g h : Nat → Int32) : upW (upW W k g) k h = upW W k h := by
  funext j
  by_cases e : j = k <;> simp [upW, e]
theorem upW_self (W : Nat → Nat → Int32) (k : Nat) : upW W k (W k) = W := by
  funext j
  by_cases e : j = k <;> simp [upW, e]
theorem cell_congr {D : va_G} {cl : List vw_C} {A : Nat → Prop} {ws : va_W} {H : Heap} {i a n : Nat} {cA : ClassId} {f g : Nat → Int32} (hP : va_P D cl ws H) (hi : ws[i]? = some (a, .inl (cA, n, .inl f))) (h : ∀ k, k < n → f k = g k) : va_P D cl (ws.set i (a, .inl (cA, n, .inl g))) H := by
  intro k q hk
  by_cases e : i = k
  · subst e
    rw [set_at hi] at hk
    cases hk
    have h1 : H[a]? = some (vp_cell cA (n, .inl f)) := hP i _ hi
    show H[a]? = some (vp_cell cA (n, .inl g))
    have e9 : (fun j : Fin n => Value.int (f j.val)) = fun j : Fin n => Value.int (g j.val) := funext fun j => by rw [h j.val j.isLt]
    rw [h1, vp_cell_i, vp_cell_i]
    show some ({ cls := cA, slots := Array.ofFn (fun j : Fin n => Value.int (f j.val)), vm := .none } : Cell) = some ({ cls := cA, slots := Array.ofFn (fun j : Fin n => Value.int (g j.val)), vm := .none } : Cell)
    rw [e9]
  · rw [List.getElem?_set_ne e] at hk
    exact hP k q hk
theorem cls_int {dC : Nat → ClassId} {dI : Nat → Nat → Nat} {cI cW cA : ClassId} {s : State} (h : va_K (dC, dI) vwCl (TY cI cW ++ [(cA, .int)]) s) : cA = cI := by
  have h1 := (h.2 0 (cI, .int) rfl).2
  have h2 := (h.2 2 (cA, .int) rfl).2
  exact Option.some.inj (Eq.trans (Eq.symm h2) h1)
theorem perm_tail {α : Type} (a b : List α) (x : α) : ((a ++ b) ++ [x]).Perm (a ++ (x :: b)) := by
  rw [List.append_assoc]
  exact List.Perm.append_left a (List.perm_append_comm (l₁ := b) (l₂ := [x]))
theorem va_P_tl {D : va_G} {cl : List vw_C} {H : Heap} {x : Nat × va_E} {w : va_W} (h : va_P D cl (x :: w) H) : va_P D cl w H := fun k q hk => h (k + 1) q hk
theorem va_D_tl {A : Nat → Prop} {x : Nat × va_E} {w : va_W} (h : va_D A (x :: w)) : va_D A w := by
  have h1 := va_D_iff.mp h
  exact va_D_iff.mpr ⟨(List.pairwise_cons.mp h1.1).2, fun q hq => h1.2 q (List.mem_cons_of_mem _ hq)⟩
theorem va_P_drop {D : va_G} {cl : List vw_C} {H : Heap} {a b : va_W} {x : Nat × va_E} (h : va_P D cl (a ++ (x :: b)) H) : va_P D cl (a ++ b) H := va_P_tl (va_P_perm List.perm_middle h)
theorem va_D_drop {A : Nat → Prop} {a b : va_W} {x : Nat × va_E} (h : va_D A (a ++ (x :: b))) : va_D A (a ++ b) := va_D_tl (va_D_perm List.perm_middle h)
theorem snoc_at {ws : va_W} {x : Nat × va_E} : (ws ++ [x])[ws.length]? = some x := by simp
theorem snoc_set {ws : va_W} {x y : Nat × va_E} : (ws ++ [x]).set ws.length y = ws ++ [y] := by simp
theorem snoc_l {ws : va_W} {x y : Nat × va_E} {q : Nat} (h : ws[q]? = some y) : (ws ++ [x])[q]? = some y := by
  have hl : q < ws.length := (List.getElem?_eq_some_iff.mp h).1
  rw [List.getElem?_append_left hl]; exact h
theorem upd_upd (f : Nat → Int32) (i : Nat) (x y : Int32) : upd (upd f i x) i y = upd f i y := by
  funext k
  by_cases h : k = i <;> simp [upd, h]
theorem upd_self (f : Nat → Int32) (i : Nat) : upd f i (f i) = f := by
  funext k
  by_cases h : k = i <;> simp [upd, h]
theorem nI_sub1 (n : Nat) : nI (n + 1) - 1 = nI n := nI_pred n

section RDs
variable {p : Program} {l : Launch} {e : Env} {R : Room} {s : State} {m : MethodId} {args : Array Value} {below : List Frame} {meth : Method} {c : Code} {H : Heap} {locs : List Loc} {cells slots : Nat} {Q : State → Prop}
variable {cc bytes : ByteArray} {pc nL maxL n index : Nat} {ls : Array Slot} {rest st0 As : List Value} {a : Array Value}
variable {dC : Nat → ClassId} {dI : Nat → Nat → Nat} {cI cW : ClassId} {Ts ws : List Cond} {own C host : String} {y : MethodName} {ret : Option FieldType} {rm : Room} {b : Addr} {wc : va_W}
theorem rd_v (hr : va_Run p l e R s m args below meth c H locs cells slots 0 0 (F0 m pc ls st0) rest (va_Sv (fun _ => True) a) (fun _ => False))
    (kk : W p l e R s m args below meth c H locs cells slots Q (F0 m (pc + 3) ls rest)) : W p l e R s m args below meth c H locs cells slots Q (F0 m pc ls st0) := by
  intro T hT X
  obtain ⟨v, st₀, t, T', L, h0, X', hL, e1, -, ⟨hv, hp, hh⟩, st⟩ := hr T hT X
  cases hv
  obtain ⟨t2, a1, b1⟩ := kk T' (by rw [e1, hh, h0]) (Stand.forget X' (fun q h => (hL q h).elim))
  exact ⟨t2, st t2 a1, b1⟩
theorem runS1 {Qc : Array Value → State → Outcome → State → Prop} {mc ms : Nat} {free : Addr → Prop} (S : CallFix p m c cc nL s args Ts own) (hM : Met l y ws rm (Pre1 dC dI cI cW As wc H.size) Qc mc ms free) (cw : CallB R s args own index y bytes maxL ret ws rm mc ms n ∧ (Cond.static y).before args s = true)
    (hKK : KK dC dI cI cW s) (hP : va_P (dC, dI) vwCl wc H) {A : Nat → Prop} (hD : va_D A wc)
    (hn : As.length = n) (hsize : ls.size = nL) (hcat : (rest.map fun v => v.category).sum ≤ 8) (hstack : st0 = As.reverse ++ rest) (hdg : decode cc pc = .ok (.invokestatic index, 3)) (hrm : cells + mc ≤ R.cells ∧ slots + ms ≤ R.slots) :
    va_Run p l e R s m args below meth c H locs cells slots mc ms (F0 m pc ls st0) rest (Qc As.toArray) free :=
  va_runS S hM cw ⟨Pre1_blind, fun U hU hW => ⟨rfl, by rw [hU], by rw [hU]; exact hP, hD.weaken (fun _ _ _ _ => trivial), hKK.warm hW⟩⟩ rfl hn hsize hstack (lv_room hcat) hdg hrm
theorem rd_d {post : UInt64 → Prop} (hr : va_Run p l e R s m args below meth c H locs cells slots 0 0 (F0 m pc ls st0) rest (vp_Sd post a) (fun _ => False))
    (kk : ∀ r : UInt64, post r → W p l e R s m args below meth c H locs cells slots Q (F0 m (pc + 3) ls (.double r :: rest))) : W p l e R s m args below meth c H locs cells slots Q (F0 m pc ls st0) := by
  intro T hT X
  obtain ⟨v, st₀, t, T', L, h0, X', hL, e1, -, ⟨r, hv, hp, hh⟩, st⟩ := hr T hT X
  cases hv
  obtain ⟨t2, a1, b1⟩ := kk r hp T' (by rw [e1, hh, h0]) (Stand.forget X' (fun q h => (hL q h).elim))
  exact ⟨t2, st t2 a1, b1⟩
end RDs
theorem nan_free : (List.range 1000).all (fun a => (List.range 10).all (fun b => decide (FP.ddiv (FP.i2d (nI a)) (FP.i2d (nI (b + 1))) &&& 0x7fffffffffffffff ≤ 0x7ff0000000000000))) = true := by decide +kernel
theorem nan_no {a b : Nat} (h : a < 1000) (h1 : 0 < b) (h2 : b ≤ 10) : vf_n64 (FP.ddiv (FP.i2d (nI a)) (FP.i2d (nI b))) := by
  have h3 := List.all_eq_true.mp nan_free a (List.mem_range.mpr h)
  have h4 := List.all_eq_true.mp h3 (b - 1) (List.mem_range.mpr (by omega))
  have h5 : FP.ddiv (FP.i2d (nI a)) (FP.i2d (nI (b - 1 + 1))) &&& 0x7fffffffffffffff ≤ 0x7ff0000000000000 := of_decide_eq_true h4
  rw [show b - 1 + 1 = b by omega] at h5
  exact h5
theorem alv_nI (Wd : Nat → Nat → Int32) : ∀ n : Nat, ∃ L : Nat, L ≤ n ∧ sm (alvF Wd) n = nI L
  | 0 => ⟨0, Nat.le_refl _, rfl⟩
  | n + 1 => by
    obtain ⟨L, h1, h2⟩ := alv_nI Wd n
    rw [sm, h2]
    by_cases h : Wd n 4 = 0
    · refine ⟨L + 1, by omega, ?_⟩
      show nI L + (if Wd n 4 = 0 then 1 else 0) = _
      rw [if_pos h, nI_1]
    · refine ⟨L, by omega, ?_⟩
      show nI L + (if Wd n 4 = 0 then 1 else 0) = _
      rw [if_neg h, Int32.add_zero]
theorem age_nI {Wd : Nat → Nat → Int32} : ∀ {n : Nat}, (∀ k, k < n → okW (Wd k)) → ∃ L : Nat, L ≤ 99 * n ∧ sm (ageF Wd) n = nI L
  | 0, _ => ⟨0, Nat.le_refl _, rfl⟩
  | n + 1, hok => by
    obtain ⟨L, h1, h2⟩ := age_nI (n := n) (fun k hk => hok k (by omega))
    rw [sm, h2]
    by_cases h : Wd n 4 = 0
    · obtain ⟨⟨a, ha, ha1, ha2⟩, -⟩ := hok n (by omega) h
      refine ⟨L + a, by omega, ?_⟩
      show nI L + (if Wd n 4 = 0 then Wd n 0 else 0) = _
      rw [if_pos h, ha, nI_add]
    · refine ⟨L, by omega, ?_⟩
      show nI L + (if Wd n 4 = 0 then Wd n 0 else 0) = _
      rw [if_neg h, Int32.add_zero]
/-- the mean age of those that live -/
def meanS (n : Nat) (Wd : Nat → Nat → Int32) : UInt64 := if sm (alvF Wd) n = 0 then 0 else FP.ddiv (FP.i2d (sm (ageF Wd) n)) (FP.i2d (sm (alvF Wd) n))
theorem mean_no {n : Nat} {Wd : Nat → Nat → Int32} (hn : n ≤ 10) (hok : ∀ k, k < n → okW (Wd k)) (h : ¬ sm (alvF Wd) n = 0) : vf_n64 (FP.ddiv (FP.i2d (sm (ageF Wd) n)) (FP.i2d (sm (alvF Wd) n))) := by
  obtain ⟨L, h1, h2⟩ := alv_nI Wd n
  obtain ⟨G, h3, h4⟩ := age_nI hok
  rw [h2] at h ⊢
  rw [h4]
  refine nan_no (by omega) ?_ (by omega)
  rcases Nat.eq_zero_or_pos L with z | z
  · subst z; exact absurd rfl h
  · exact z

