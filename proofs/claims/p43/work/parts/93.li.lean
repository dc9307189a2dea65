/-! a script's cell is loaded -/
section LDS
variable {p : Program} {l : Launch} {e : Env} {s : State} {m : MethodId} {below : List Frame} {meth : Method} {c : Code} {b L : Nat} {xs : Nat → Int32} {H : Heap} {locs : List Loc} {cells slots : Nat} {Q : State → Prop} {pc : Nat} {ls : Array Slot} {rest : List Value}
theorem ld_a (C0 : LW p l s m meth c b L xs) {n j : Nat} {cj : Int} (hS : va_S (fun q : Nat => s.heap.size ≤ q) s.heap H locs) (hb0 : ls[0]? = some (.val (.ref b))) (hi4 : ls[4]? = some (.val (.int (nI n)))) (hn : n + j < L) (hL : L ≤ 3072) (hc : Int32.ofInt cj = nI j) (d0 : decode cL_law pc = .ok (.aload_n 0, 1)) (d1 : decode cL_law (pc + 1) = .ok (.iload 4, 2)) (d2 : decode cL_law (pc + 3) = .ok (.iconst cj, 1)) (d3 : decode cL_law (pc + 4) = .ok (.iadd, 1)) (d4 : decode cL_law (pc + 5) = .ok (.iaload, 1)) (kk : W p l e room_1 s m #[Value.ref b] below meth c H locs cells slots Q (F0 m (pc + 6) ls (.int (xs (n + j)) :: rest))) : W p l e room_1 s m #[Value.ref b] below meth c H locs cells slots Q (F0 m pc ls rest) := by
  obtain ⟨⟨hx, hb, hr, hml, hown, htb, hX, hbl, hlocks, hgv⟩, -, -, -⟩ := C0
  have hb : c.code = cL_law := hb
  refine lv_aload_n hx hb d0 rfl hb0 ?_
  refine lv_iload hx hb d1 hi4 ?_
  refine lv_iconst (v := nI j) hx hb d2 hc ?_
  refine lv_iadd hx hb d3 ?_
  refine lv_topi (fun z ez => ?_)
  obtain rfl : z = nI (n + j) := ez.trans (nI_add n j)
  refine va_sld hx hb hX hbl (show ¬ s.heap.size ≤ b from Nat.not_le.mpr hbl) hS (vp_in_nI hn (by omega)) d4 ?_
  rw [nI_clamp (by omega)]
  exact kk
/-- a flag, as the law makes it of a script's cell -/
def bo (x : Int32) : Int32 := if x = 0 then 0 else 1
theorem ld_b (C0 : LW p l s m meth c b L xs) {n j : Nat} {cj : Int} (hS : va_S (fun q : Nat => s.heap.size ≤ q) s.heap H locs) (hb0 : ls[0]? = some (.val (.ref b))) (hi4 : ls[4]? = some (.val (.int (nI n)))) (hn : n + j < L) (hL : L ≤ 3072) (hc : Int32.ofInt cj = nI j) (d0 : decode cL_law pc = .ok (.aload_n 0, 1)) (d1 : decode cL_law (pc + 1) = .ok (.iload 4, 2)) (d2 : decode cL_law (pc + 3) = .ok (.iconst cj, 1)) (d3 : decode cL_law (pc + 4) = .ok (.iadd, 1)) (d4 : decode cL_law (pc + 5) = .ok (.iaload, 1)) (d5 : decode cL_law (pc + 6) = .ok (.ifCond .eq 7, 3)) (d6 : decode cL_law (pc + 9) = .ok (.iconst 1, 1)) (d7 : decode cL_law (pc + 10) = .ok (.goto 4, 3)) (d8 : decode cL_law (pc + 13) = .ok (.iconst 0, 1)) (kk : W p l e room_1 s m #[Value.ref b] below meth c H locs cells slots Q (F0 m (pc + 14) ls (.int (bo (xs (n + j))) :: rest))) : W p l e room_1 s m #[Value.ref b] below meth c H locs cells slots Q (F0 m pc ls rest) := by
  refine ld_a C0 hS hb0 hi4 hn hL hc d0 d1 d2 d3 d4 ?_
  obtain ⟨⟨hx, hb, hr, hml, hown, htb, hX, hbl, hlocks, hgv⟩, -, -, -⟩ := C0
  have hb : c.code = cL_law := hb
  refine lv_if_eq (tgt := pc + 13) hx hb d5 (by omega) (fun c1 => ?_) (fun c1 => ?_)
  · refine lv_iconst (v := 0) hx hb d8 (by decide) ?_
    rw [show bo (xs (n + j)) = 0 from if_pos c1] at kk
    exact kk
  · refine lv_iconst (v := 1) hx hb d6 (by decide) ?_
    refine lv_goto (tgt := pc + 14) hx hb d7 (by omega) ?_
    rw [show bo (xs (n + j)) = 1 from if_neg c1] at kk
    exact kk
end LDS
/-- the state between two calls: both worlds, and what ties them -/
def LI (D : va_G) (s : State) (h0 g0 q9 : Nat) (H : Heap) (locs : List Loc) : Prop := ∃ (A : Nat → Nat) (U : Nat → Nat → Nat) (C : Nat → Nat → ClassId) (na : Nat → Nat) (nu : Nat → Nat → Nat) (nk : Nat → Nat → ClassId) (X : XS) (B : Nat → Nat) (E : Nat → ClassId) (M : MS) (o : Option TX11_q) (RV : Value) (qa : Nat) (qu : Nat → Nat) (qk : Nat → ClassId) (cO : ClassId) (fO : Nat → Int64), A 0 = h0 ∧ B 0 = g0 ∧ KX D s C nk ∧ KM D s E ∧ KQ D s qk o ∧ va_K D vwCl [(cO, .long)] s ∧ Rel X M o ∧ HS D s (cat (wX A U C na nu nk X) (cat (wMo B E M o RV qa qu qk) [(q9, .inl (cO, 1, .inr (.inl fO)))])) H locs
