/-! constructors: what they start from, how they are called, what they leave -/
def PreA (dC : Nat → ClassId) (dI : Nat → Nat → Nat) (cI cW : ClassId) (av : List Value) (ws : va_W) (sz : Nat) : Array Value → State → Prop :=
  va_Pc av (fun U => U.heap.size = sz ∧ va_P (dC, dI) vwCl ws U.heap ∧ va_D (fun _ => True) ws ∧ KK dC dI cI cW U ∧ va_AO "WidowPennies$Widow" U)
theorem PreA_blind {dC : Nat → ClassId} {dI : Nat → Nat → Nat} {cI cW : ClassId} {av : List Value} {ws : va_W} {sz : Nat} : FrameBlind (PreA dC dI cI cW av ws sz) :=
  fun a U g mk h => ⟨h.1, h.2.1, h.2.2.1, h.2.2.2.1, h.2.2.2.2.1.calling g mk a, va_AO.moved (u := U) (U := U.calling g mk a) (Vm.Alike.refl U.vm) h.2.2.2.2.2⟩
abbrev QvU {S : Type} (dC : Nat → ClassId) (dI : Nat → Nat → Nat) (ws : va_W) (ws' : S → va_W) (sz : Nat) : Array Value → State → Outcome → State → Prop :=
  va_Qv (fun _ : S => True) (fun u t => va_P (dC, dI) vwCl (ws' u) t.heap ∧ va_D (va_A ws sz) (ws' u)) (va_A ws sz)
section RD3
variable {p : Program} {l : Launch} {e : Env} {R : Room} {s : State} {m : MethodId} {args : Array Value} {below : List Frame} {meth : Method} {c : Code} {H : Heap} {locs : List Loc} {cells slots : Nat} {Q : State → Prop}
variable {cc bytes : ByteArray} {pc nL maxL n index : Nat} {ls : Array Slot} {rest st0 As : List Value} {a : Array Value}
variable {dC : Nat → ClassId} {dI : Nat → Nat → Nat} {cI cW : ClassId} {Ts ws : List Cond} {own C host : String} {y : MethodName} {ret : Option FieldType} {rm : Room} {b : Addr} {wc : va_W}
theorem runI1 {Qc : Array Value → State → Outcome → State → Prop} {mc ms : Nat} {free : Addr → Prop} (S : CallFix p m c cc nL s args Ts own) (hM : Met l y ws rm (Pre1 dC dI cI cW (.ref b :: As) wc H.size) Qc mc ms free) (cw : CallB R s args own index y bytes maxL none ws rm mc ms n ∧ y.name = "<init>" ∧ (Cond.instanceMethod y).before args s = true)
    (hKK : KK dC dI cI cW s) (hP : va_P (dC, dI) vwCl wc H) {A : Nat → Prop} (hD : va_D A wc)
    (hn : As.length = n) (hsize : ls.size = nL) (hcat : (rest.map fun v => v.category).sum ≤ 8) (hstack : st0 = As.reverse ++ .ref b :: rest) (hdg : decode cc pc = .ok (.invokespecial index, 3)) (hrm : cells + mc ≤ R.cells ∧ slots + ms ≤ R.slots) :
    va_Run p l e R s m args below meth c H locs cells slots mc ms (F0 m pc ls st0) rest (Qc (Value.ref b :: As).toArray) free :=
  va_runI S hM cw ⟨Pre1_blind, fun U hU hW => ⟨rfl, by rw [hU], by rw [hU]; exact hP, hD.weaken (fun _ _ _ _ => trivial), hKK.warm hW⟩⟩ rfl hn hsize hstack (lv_room hcat) hdg hrm
theorem runI1A {Qc : Array Value → State → Outcome → State → Prop} {mc ms : Nat} {free : Addr → Prop} (S : CallFix p m c cc nL s args Ts own) (hM : Met l y ws rm (PreA dC dI cI cW (.ref b :: As) wc H.size) Qc mc ms free) (cw : CallB R s args own index y bytes maxL none ws rm mc ms n ∧ y.name = "<init>" ∧ (Cond.instanceMethod y).before args s = true)
    (hKK : KK dC dI cI cW s) (hAO : va_AO "WidowPennies$Widow" s) (hP : va_P (dC, dI) vwCl wc H) {A : Nat → Prop} (hD : va_D A wc)
    (hn : As.length = n) (hsize : ls.size = nL) (hcat : (rest.map fun v => v.category).sum ≤ 8) (hstack : st0 = As.reverse ++ .ref b :: rest) (hdg : decode cc pc = .ok (.invokespecial index, 3)) (hrm : cells + mc ≤ R.cells ∧ slots + ms ≤ R.slots) :
    va_Run p l e R s m args below meth c H locs cells slots mc ms (F0 m pc ls st0) rest (Qc (Value.ref b :: As).toArray) free :=
  va_runI S hM cw ⟨PreA_blind, fun U hU hW => ⟨rfl, by rw [hU], by rw [hU]; exact hP, hD.weaken (fun _ _ _ _ => trivial), hKK.warm hW, va_AO.moved hW.alike hAO⟩⟩ rfl hn hsize hstack (lv_room hcat) hdg hrm
theorem runIN1 {Qc : Array Value → State → Outcome → State → Prop} {mc ms : Nat} {free : Addr → Prop} (S : CallFix p m c cc nL s args Ts own) (hM : Met l y ws rm (Pre1 dC dI cI cW (.ref b :: As) wc H.size) Qc mc ms free) (cw : va_CN R s args own index y host bytes maxL none ws rm mc ms n ∧ y.name = "<init>" ∧ (Cond.instanceMethod y).before args s = true)
    (hKK : KK dC dI cI cW s) (hP : va_P (dC, dI) vwCl wc H) {A : Nat → Prop} (hD : va_D A wc)
    (hn : As.length = n) (hsize : ls.size = nL) (hcat : (rest.map fun v => v.category).sum ≤ 8) (hstack : st0 = As.reverse ++ .ref b :: rest) (hdg : decode cc pc = .ok (.invokespecial index, 3)) (hrm : cells + mc ≤ R.cells ∧ slots + ms ≤ R.slots) :
    va_Run p l e R s m args below meth c H locs cells slots mc ms (F0 m pc ls st0) rest (Qc (Value.ref b :: As).toArray) free :=
  va_runIN S hM cw ⟨Pre1_blind, fun U hU hW => ⟨rfl, by rw [hU], by rw [hU]; exact hP, hD.weaken (fun _ _ _ _ => trivial), hKK.warm hW⟩⟩ rfl hn hsize hstack (lv_room hcat) hdg hrm
theorem wr_u {S : Type} {A : Nat → Prop} {H0 : Heap} {mc ms : Nat} {wc' : S → va_W} (hr : va_Run p l e R s m args below meth c H locs cells slots mc ms (F0 m pc ls st0) rest (QvU dC dI wc wc' H.size a) (va_A wc H.size)) (hD : va_D A wc) (hS : va_S A H0 H locs) (hA : ∀ q, H0.size ≤ q → A q)
    (kk : ∀ (u : S) (H1 : Heap) (locs1 : List Loc), va_P (dC, dI) vwCl (wc' u) H1 → va_D A (wc' u) → va_S A H0 H1 locs1 → W p l e R s m args below meth c H1 locs1 (cells + mc) (slots + ms) Q (F0 m (pc + 3) ls rest)) : W p l e R s m args below meth c H locs cells slots Q (F0 m pc ls st0) :=
  va_callv hr hS (fun q _ h => free_all hD hS hA q h) (free_all hD hS hA) (fun u t H1 locs1 ht hvm hw hB hz hk hS1 => kk u H1 locs1 (by rw [← ht]; exact hB.1) (hB.2.weaken (fun _ q _ h => free_all hD hS hA q.1 h)) hS1)
end RD3
theorem cls_obj {dC : Nat → ClassId} {dI : Nat → Nat → Nat} {cI cW cA : ClassId} {s : State} (h : va_K (dC, dI) vwCl (TY cI cW ++ [(cA, .object "WidowPennies$Widow")]) s) : cA = cW := by
  have h1 := va_nmO (h.2 1 (cW, .object "WidowPennies$Widow") rfl).2 rfl
  have h2 := va_nmO (h.2 2 (cA, .object "WidowPennies$Widow") rfl).2 rfl
  exact Option.some.inj (Eq.trans (Eq.symm h2) h1)
theorem perm_front {α : Type} (a : List α) (x : α) : (a ++ [x]).Perm (x :: a) := List.perm_append_comm
/-- the tables as they begin -/
def dP (j : Nat) : Nat → Int32 := fun k => if k < j then nI (10 + 8 * k) else 0
def r00 : Nat → Int32 := upd (upd (upd (fun _ => 0) 0 40) 1 5) 2 10
theorem dP_0 : dP 0 = fun _ => 0 := by
  funext k
  simp [dP]
theorem dP_put (j : Nat) : upd (dP j) j (nI (10 + 8 * j)) = dP (j + 1) := by
  funext k
  unfold dP upd
  by_cases h : k = j
  · subst h; simp
  · simp only [h, if_false]
    by_cases h2 : k < j
    · rw [if_pos h2, if_pos (by omega)]
    · rw [if_neg h2, if_neg (by omega)]
/-- the widows of a new book, k of them made -/
def wlk (B : Nat → Nat) (k : Nat) : va_W := (List.range k).map (fun j => (B (j + 2), .inr (2, row (fun _ => 0))))
def arrk (B : Nat → Nat) (k : Nat) : Nat → Option Nat := fun j => if j < k then some (B (j + 2)) else none
theorem wlk_len (B : Nat → Nat) (k : Nat) : (wlk B k).length = k := by simp [wlk]
theorem wlk_s (B : Nat → Nat) (k w : Nat) : wlk B k ++ [(w, .inr (2, row (fun _ => 0)))] = wlk (fun i => if i = k + 2 then w else B i) (k + 1) := by
  unfold wlk
  rw [List.range_succ, List.map_append]
  congr 1
  · apply List.map_congr_left
    intro j hj
    have := List.mem_range.mp hj
    simp [show ¬ j = k by omega]
  · simp
theorem arrk_s (B : Nat → Nat) (k w : Nat) : va_up (arrk B k) k (some w) = arrk (fun i => if i = k + 2 then w else B i) (k + 1) := by
  funext j
  unfold va_up arrk
  by_cases h : j = k
  · subst h; simp
  · by_cases h2 : j < k
    · simp [h, h2, show j < k + 1 by omega]
    · simp [h, h2, show ¬ j < k + 1 by omega]
theorem arrk_0 (B : Nat → Nat) : arrk B 0 = fun _ => none := by
  funext j
  simp [arrk]
theorem wlk_10 (B : Nat → Nat) : wlk B 10 = wl B (fun _ _ => 0) := rfl
