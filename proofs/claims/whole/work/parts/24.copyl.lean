/-! a method that makes one new array of ints and hands it back; a method that ends in a world told by what it made -/
abbrev Qr1 (dC : Nat → ClassId) (dI : Nat → Nat → Nat) (cI : ClassId) (ws : va_W) (N : Nat) (f : Nat → Int32) (sz : Nat) : Array Value → State → Outcome → State → Prop :=
  va_Qr (fun _ : Unit => True) (fun _ a t => va_P (dC, dI) vwCl (ws ++ [(a, .inl (cI, N, .inl f))]) t.heap ∧ va_D (va_A ws sz) (ws ++ [(a, .inl (cI, N, .inl f))])) (va_A ws sz)
abbrev QiM (dC : Nat → ClassId) (dI : Nat → Nat → Nat) (post : Int32 → Prop) (ws : va_W) (ws' : Nat × Nat → va_W) (sz : Nat) : Array Value → State → Outcome → State → Prop :=
  va_Qi (fun (r : Int32) (_ : Nat × Nat) => post r) (fun u t => va_P (dC, dI) vwCl (ws' u) t.heap ∧ va_D (va_A ws sz) (ws' u)) (va_A ws sz)
section RD2
variable {p : Program} {l : Launch} {e : Env} {R : Room} {s : State} {m : MethodId} {args : Array Value} {below : List Frame} {meth : Method} {c : Code} {H : Heap} {locs : List Loc} {cells slots : Nat} {Q : State → Prop}
variable {cc bytes : ByteArray} {pc nL maxL n index : Nat} {ls : Array Slot} {rest st0 As : List Value} {a : Array Value}
variable {dC : Nat → ClassId} {dI : Nat → Nat → Nat} {cI cW : ClassId} {Ts ws : List Cond} {own C host : String} {y : MethodName} {ret : Option FieldType} {rm : Room} {b : Addr} {wc : va_W}
theorem runS1 {Qc : Array Value → State → Outcome → State → Prop} {mc ms : Nat} {free : Addr → Prop} (S : CallFix p m c cc nL s args Ts own) (hM : Met l y ws rm (Pre1 dC dI cI cW As wc H.size) Qc mc ms free) (cw : CallB R s args own index y bytes maxL ret ws rm mc ms n ∧ (Cond.static y).before args s = true)
    (hKK : KK dC dI cI cW s) (hP : va_P (dC, dI) vwCl wc H) {A : Nat → Prop} (hD : va_D A wc)
    (hn : As.length = n) (hsize : ls.size = nL) (hcat : (rest.map fun v => v.category).sum ≤ 8) (hstack : st0 = As.reverse ++ rest) (hdg : decode cc pc = .ok (.invokestatic index, 3)) (hrm : cells + mc ≤ R.cells ∧ slots + ms ≤ R.slots) :
    va_Run p l e R s m args below meth c H locs cells slots mc ms (F0 m pc ls st0) rest (Qc As.toArray) free :=
  va_runS S hM cw ⟨Pre1_blind, fun U hU hW => ⟨rfl, by rw [hU], by rw [hU]; exact hP, hD.weaken (fun _ _ _ _ => trivial), hKK.warm hW⟩⟩ rfl hn hsize hstack (lv_room hcat) hdg hrm
theorem wr_r {A : Nat → Prop} {H0 : Heap} {mc ms N : Nat} {f : Nat → Int32} (hr : va_Run p l e R s m args below meth c H locs cells slots mc ms (F0 m pc ls st0) rest (Qr1 dC dI cI wc N f H.size a) (va_A wc H.size)) (hD : va_D A wc) (hS : va_S A H0 H locs) (hA : ∀ q, H0.size ≤ q → A q)
    (kk : ∀ (ra : Nat) (H1 : Heap) (locs1 : List Loc), va_P (dC, dI) vwCl (wc ++ [(ra, .inl (cI, N, .inl f))]) H1 → va_D A (wc ++ [(ra, .inl (cI, N, .inl f))]) → va_S A H0 H1 locs1 → W p l e R s m args below meth c H1 locs1 (cells + mc) (slots + ms) Q (F0 m (pc + 3) ls (.ref ra :: rest))) : W p l e R s m args below meth c H locs cells slots Q (F0 m pc ls st0) :=
  va_callr hr hS (fun q _ h => free_all hD hS hA q h) (free_all hD hS hA) (fun u ra t H1 locs1 ht hvm hw hB hz hk hS1 => kk ra H1 locs1 (by rw [← ht]; exact hB.1) (hB.2.weaken (fun _ q _ h => free_all hD hS hA q.1 h)) hS1)
theorem rd_d {post : UInt64 → Prop} (hr : va_Run p l e R s m args below meth c H locs cells slots 0 0 (F0 m pc ls st0) rest (vp_Sd post a) (fun _ => False))
    (kk : ∀ r : UInt64, post r → W p l e R s m args below meth c H locs cells slots Q (F0 m (pc + 3) ls (.double r :: rest))) : W p l e R s m args below meth c H locs cells slots Q (F0 m pc ls st0) := by
  intro T hT X
  obtain ⟨v, st₀, t, T', L, h0, X', hL, e1, -, ⟨r, hv, hp, hh⟩, st⟩ := hr T hT X
  cases hv
  obtain ⟨t2, a1, b1⟩ := kk r hp T' (by rw [e1, hh, h0]) (Stand.forget X' (fun q h => (hL q h).elim))
  exact ⟨t2, st t2 a1, b1⟩
end RD2
theorem snoc_to {D : va_G} {cl : List vw_C} {ws : va_W} {H : Heap} {q N : Nat} {cI : ClassId} {f : Nat → Int32} (h : va_P D cl (List.set (α := Nat × va_E) (ws ++ [(q, .inl (cI, N, .inl (fun _ => 0)))]) ws.length (q, .inl (cI, N, .inl (va_cpy f (fun _ => 0) 0 0 N)))) H) : va_P D cl (ws ++ [(q, .inl (cI, N, .inl f))]) H := by
  rw [snoc_set] at h
  have h2 := cell_congr (A := fun _ => True) h snoc_at (cpy_all f N)
  rw [snoc_set] at h2
  exact h2
theorem snoc_toD {A : Nat → Prop} {ws : va_W} {q N : Nat} {cI : ClassId} {f g h : Nat → Int32} (hD : va_D A (List.set (α := Nat × va_E) (ws ++ [(q, .inl (cI, N, .inl g))]) ws.length (q, .inl (cI, N, .inl h)))) : va_D A (ws ++ [(q, .inl (cI, N, .inl f))]) := by
  rw [snoc_set] at hD
  have h2 := va_D.set (e := .inl (cI, N, .inl f)) hD snoc_at
  rw [snoc_set] at h2
  exact h2
theorem nan_free : (List.range 1000).all (fun a => (List.range 10).all (fun b => decide (FP.ddiv (FP.i2d (nI a)) (FP.i2d (nI (b + 1))) &&& 0x7fffffffffffffff ≤ 0x7ff0000000000000))) = true := by decide +kernel
theorem nan_no {a b : Nat} (h : a < 1000) (h1 : 0 < b) (h2 : b ≤ 10) : vf_n64 (FP.ddiv (FP.i2d (nI a)) (FP.i2d (nI b))) := by
  have h3 := List.all_eq_true.mp nan_free a (List.mem_range.mpr h)
  have h4 := List.all_eq_true.mp h3 (b - 1) (List.mem_range.mpr (by omega))
  have h5 : FP.ddiv (FP.i2d (nI a)) (FP.i2d (nI (b - 1 + 1))) &&& 0x7fffffffffffffff ≤ 0x7ff0000000000000 := of_decide_eq_true h4
  rw [show b - 1 + 1 = b by omega] at h5
  exact h5
theorem alv_nI (Wd : Nat → Nat → Int32) : ∀ n : Nat, ∃ L : Nat, L ≤ n ∧ sm (alvF Wd) n = nI L
  | 0 => ⟨0, Nat.le_refl _, rfl⟩
  | n + 1 => by
    obtain ⟨L, h1, h2⟩ := alv_nI Wd n
    rw [sm, h2]
    by_cases h : Wd n 4 = 0
    · refine ⟨L + 1, by omega, ?_⟩
      show nI L + (if Wd n 4 = 0 then 1 else 0) = _
      rw [if_pos h, nI_1]
    · refine ⟨L, by omega, ?_⟩
      show nI L + (if Wd n 4 = 0 then 1 else 0) = _
      rw [if_neg h, Int32.add_zero]
theorem age_nI {Wd : Nat → Nat → Int32} : ∀ {n : Nat}, (∀ k, k < n → okW (Wd k)) → ∃ L : Nat, L ≤ 99 * n ∧ sm (ageF Wd) n = nI L
  | 0, _ => ⟨0, Nat.le_refl _, rfl⟩
  | n + 1, hok => by
    obtain ⟨L, h1, h2⟩ := age_nI (n := n) (fun k hk => hok k (by omega))
    rw [sm, h2]
    by_cases h : Wd n 4 = 0
    · obtain ⟨⟨a, ha, ha1, ha2⟩, -⟩ := hok n (by omega) h
      refine ⟨L + a, by omega, ?_⟩
      show nI L + (if Wd n 4 = 0 then Wd n 0 else 0) = _
      rw [if_pos h, ha, nI_add]
    · refine ⟨L, by omega, ?_⟩
      show nI L + (if Wd n 4 = 0 then Wd n 0 else 0) = _
      rw [if_neg h, Int32.add_zero]
/-- the mean age of those that live -/
def meanS (n : Nat) (Wd : Nat → Nat → Int32) : UInt64 := if sm (alvF Wd) n = 0 then 0 else FP.ddiv (FP.i2d (sm (ageF Wd) n)) (FP.i2d (sm (alvF Wd) n))
theorem mean_no {n : Nat} {Wd : Nat → Nat → Int32} (hn : n ≤ 10) (hok : ∀ k, k < n → okW (Wd k)) (h : ¬ sm (alvF Wd) n = 0) : vf_n64 (FP.ddiv (FP.i2d (sm (ageF Wd) n)) (FP.i2d (sm (alvF Wd) n))) := by
  obtain ⟨L, h1, h2⟩ := alv_nI Wd n
  obtain ⟨G, h3, h4⟩ := age_nI hok
  rw [h2] at h ⊢
  rw [h4]
  refine nan_no (by omega) ?_ (by omega)
  rcases Nat.eq_zero_or_pos L with z | z
  · subst z; exact absurd rfl h
  · exact z
