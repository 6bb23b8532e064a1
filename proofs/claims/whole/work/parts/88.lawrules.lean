/-! ===== rows of the law: the script (the number 1000000), the calls of the two objects ===== -/
abbrev mL : am_M := (yL_law, cL_law, 4, ret)
def lw_G (L : Nat) (xs : Nat → Int32) : al_G := fun s args A b => args = #[Value.ref b] ∧ va_X b L xs s s.heap ∧ b < s.heap.size ∧ A = (fun q => s.heap.size ≤ q)
def lw_B (L : Nat) (xs : Nat → Int32) (σ : am_St) : ge_B := fun D dA A _ s args φ H locs => lw_G L xs s args A (φ 1000000) ∧ am_P D dA s.heap.size φ SH σ H ∧ va_S A s.heap H locs
def lw_K : ge_K := fun below args s _ _ _ _ => lw_Z below args s
section LWR
variable {L : Nat} {xs : Nat → Int32} {σ : am_St} {K : ge_K} {M : am_M} {R : Room} {pc : Nat} {lv : List (Option Value)} {st : List Value} {cells slots : Nat}
theorem lw_sld {i : Int} (hd : decode M.2.1 pc = .ok (.iaload, 1)) (h0 : 0 ≤ i) (h1 : i < L) (hL : L ≤ 2048) (kk : ge_Go K (lw_B L xs σ) M R (pc + 1) lv (.int (iZ (xs i.toNat).toInt) :: st) cells slots) : ge_Go K (lw_B L xs σ) M R pc lv (.int (iZ i) :: .ref 1000000 :: st) cells slots := by
  intro p l e D dA A h0' s m args below meth c C hO hN hA H locs ls φ hB hLs
  have h := kk p l e D dA A h0' s m args below meth c C hO hN hA H locs ls φ hB hLs
  obtain ⟨⟨hargs, hX, hbl, hAe⟩, hP, hS⟩ := hB
  have hbA : ¬ A (φ 1000000) := by rw [hAe]; exact Nat.not_le.mpr hbl
  rw [iZ_of] at h
  refine va_sld (b := φ 1000000) C.1 C.2.1 hX hbl hbA hS (iZ_in h0 h1 (by omega)) hd ?_
  rw [iZ_clamp ⟨by omega, by omega⟩]
  exact h
theorem lw_slen (hd : decode M.2.1 pc = .ok (.arraylength, 1)) (kk : ge_Go K (lw_B L xs σ) M R (pc + 1) lv (.int (iZ (L : Int)) :: st) cells slots) : ge_Go K (lw_B L xs σ) M R pc lv (.ref 1000000 :: st) cells slots := by
  intro p l e D dA A h0' s m args below meth c C hO hN hA H locs ls φ hB hLs
  have h := kk p l e D dA A h0' s m args below meth c C hO hN hA H locs ls φ hB hLs
  obtain ⟨⟨hargs, hX, hbl, hAe⟩, hP, hS⟩ := hB
  have hbA : ¬ A (φ 1000000) := by rw [hAe]; exact Nat.not_le.mpr hbl
  refine va_slen (b := φ 1000000) C.1 C.2.1 hX hbl hbA hS hd ?_
  rw [iZ, Int32.ofInt_eq_ofNat] at h
  exact h
theorem lw_call {M2 : am_M} {idx n d2 k ci : Nat} {ks : List Nat} {r0 : vw_C} {As : List Value} {Q2 : Option Value → am_St → Prop} (hd : decode M.2.1 pc = .ok (.invokevirtual idx, 3)) (hL : Cond.methodLink M.1.cls idx M2.1 ∈ am_tbl) (hM : am_MV M2 n) (hk : SH[k]? = some (.inr (ci, ks))) (hci : am_cl[ci]? = some r0) (hcn : r0.1 = M2.1.cls) (hn : As.length = n) (hr : (st.map fun v => v.category).sum ≤ 8) (hR : d2 + 1 ≤ R.frames ∧ 8 + (M2.2.2.1 + 11) + 32 * d2 ≤ R.locals) (hf : cells ≤ R.cells ∧ slots ≤ R.slots) (hE : am_Ev SH M2 d2 (.ref k :: As) σ Q2) (kk : ∀ r σ2, Q2 r σ2 → ge_Go K (lw_B L xs σ2) M R (pc + 3) lv (r.toList ++ st) cells slots) : ge_Go K (lw_B L xs σ) M R pc lv (As.reverse ++ .ref k :: st) cells slots := by
  intro p l e D dA A h0' s m args below meth c C hO hN hA H locs ls φ hB hLs
  obtain ⟨hG, hP, hS⟩ := hB
  have hAe : A = fun q => s.heap.size ≤ q := hG.2.2.2
  subst hAe
  obtain ⟨hM1, hM2, hM3, hM4, hM5, hM6⟩ := hM
  refine am_call (am_runV (Ts := am_wd M) (own := M.1.cls) (As := As) ⟨C.1, C.2.1, C.2.2.2.1, C.2.2.2.2.1, C.2.2.2.2.2.1⟩ (am_good hM4) C.2.2.2.2.2.2.2 (List.mem_cons_of_mem _ hL) (List.mem_cons_of_mem _ hM1) (List.mem_cons_of_mem _ hM2) (List.mem_cons_of_mem _ hM3) hM5 hE hP hk hci hcn hR hn hLs.1 (rest := st.map (am_v φ)) ?_ (by rw [am_sum]; exact hr) hd hf) hS (fun r σ2 H1 locs1 hq hP1 hS1 => ?_)
  · rw [List.map_append, List.map_reverse]; rfl
  · have h := kk r σ2 hq p l e D dA _ h0' s m args below meth c C hO hN hA H1 locs1 ls φ ⟨hG, hP1, hS1⟩ hLs
    cases r <;> exact h
theorem lw_i0 {M2 : am_M} {idx d2 k ci : Nat} {ks : List Nat} {r0 : vw_C} {P2 : Int → am_St → Prop} (hd : decode M.2.1 pc = .ok (.invokevirtual idx, 3)) (hL : Cond.methodLink M.1.cls idx M2.1 ∈ am_tbl) (hM : am_MV M2 0) (hk : SH[k]? = some (.inr (ci, ks))) (hci : am_cl[ci]? = some r0) (hcn : r0.1 = M2.1.cls) (hr : (st.map fun v => v.category).sum ≤ 8) (hR : d2 + 1 ≤ R.frames ∧ 8 + (M2.2.2.1 + 11) + 32 * d2 ≤ R.locals) (hf : cells ≤ R.cells ∧ slots ≤ R.slots) (hE : am_Ev SH M2 d2 [.ref k] σ (am_rI P2)) (kk : ∀ x σ2, P2 x σ2 → ge_Go K (lw_B L xs σ2) M R (pc + 3) lv (.int (iZ x) :: st) cells slots) : ge_Go K (lw_B L xs σ) M R pc lv (.ref k :: st) cells slots :=
  lw_call (As := []) hd hL hM hk hci hcn rfl hr hR hf hE (fun r σ2 hq => by obtain ⟨x, rfl, h⟩ := hq; exact kk x σ2 h)
theorem lw_l0 {M2 : am_M} {idx d2 k ci : Nat} {ks : List Nat} {r0 : vw_C} {P2 : Int → am_St → Prop} (hd : decode M.2.1 pc = .ok (.invokevirtual idx, 3)) (hL : Cond.methodLink M.1.cls idx M2.1 ∈ am_tbl) (hM : am_MV M2 0) (hk : SH[k]? = some (.inr (ci, ks))) (hci : am_cl[ci]? = some r0) (hcn : r0.1 = M2.1.cls) (hr : (st.map fun v => v.category).sum ≤ 8) (hR : d2 + 1 ≤ R.frames ∧ 8 + (M2.2.2.1 + 11) + 32 * d2 ≤ R.locals) (hf : cells ≤ R.cells ∧ slots ≤ R.slots) (hE : am_Ev SH M2 d2 [.ref k] σ (am_rL P2)) (kk : ∀ x σ2, P2 x σ2 → ge_Go K (lw_B L xs σ2) M R (pc + 3) lv (.long (lZ x) :: st) cells slots) : ge_Go K (lw_B L xs σ) M R pc lv (.ref k :: st) cells slots :=
  lw_call (As := []) hd hL hM hk hci hcn rfl hr hR hf hE (fun r σ2 hq => by obtain ⟨x, rfl, h⟩ := hq; exact kk x σ2 h)
theorem lw_i1 {M2 : am_M} {idx d2 k ci : Nat} {b1 : Value} {ks : List Nat} {r0 : vw_C} {P2 : Int → am_St → Prop} (hd : decode M.2.1 pc = .ok (.invokevirtual idx, 3)) (hL : Cond.methodLink M.1.cls idx M2.1 ∈ am_tbl) (hM : am_MV M2 1) (hk : SH[k]? = some (.inr (ci, ks))) (hci : am_cl[ci]? = some r0) (hcn : r0.1 = M2.1.cls) (hr : (st.map fun v => v.category).sum ≤ 8) (hR : d2 + 1 ≤ R.frames ∧ 8 + (M2.2.2.1 + 11) + 32 * d2 ≤ R.locals) (hf : cells ≤ R.cells ∧ slots ≤ R.slots) (hE : am_Ev SH M2 d2 [.ref k, b1] σ (am_rI P2)) (kk : ∀ x σ2, P2 x σ2 → ge_Go K (lw_B L xs σ2) M R (pc + 3) lv (.int (iZ x) :: st) cells slots) : ge_Go K (lw_B L xs σ) M R pc lv (b1 :: .ref k :: st) cells slots :=
  lw_call (As := [b1]) hd hL hM hk hci hcn rfl hr hR hf hE (fun r σ2 hq => by obtain ⟨x, rfl, h⟩ := hq; exact kk x σ2 h)
theorem lw_i2 {M2 : am_M} {idx d2 k ci : Nat} {b1 b2 : Value} {ks : List Nat} {r0 : vw_C} {P2 : Int → am_St → Prop} (hd : decode M.2.1 pc = .ok (.invokevirtual idx, 3)) (hL : Cond.methodLink M.1.cls idx M2.1 ∈ am_tbl) (hM : am_MV M2 2) (hk : SH[k]? = some (.inr (ci, ks))) (hci : am_cl[ci]? = some r0) (hcn : r0.1 = M2.1.cls) (hr : (st.map fun v => v.category).sum ≤ 8) (hR : d2 + 1 ≤ R.frames ∧ 8 + (M2.2.2.1 + 11) + 32 * d2 ≤ R.locals) (hf : cells ≤ R.cells ∧ slots ≤ R.slots) (hE : am_Ev SH M2 d2 [.ref k, b1, b2] σ (am_rI P2)) (kk : ∀ x σ2, P2 x σ2 → ge_Go K (lw_B L xs σ2) M R (pc + 3) lv (.int (iZ x) :: st) cells slots) : ge_Go K (lw_B L xs σ) M R pc lv (b2 :: b1 :: .ref k :: st) cells slots :=
  lw_call (As := [b1, b2]) hd hL hM hk hci hcn rfl hr hR hf hE (fun r σ2 hq => by obtain ⟨x, rfl, h⟩ := hq; exact kk x σ2 h)
theorem lw_i3 {M2 : am_M} {idx d2 k ci : Nat} {b1 b2 b3 : Value} {ks : List Nat} {r0 : vw_C} {P2 : Int → am_St → Prop} (hd : decode M.2.1 pc = .ok (.invokevirtual idx, 3)) (hL : Cond.methodLink M.1.cls idx M2.1 ∈ am_tbl) (hM : am_MV M2 3) (hk : SH[k]? = some (.inr (ci, ks))) (hci : am_cl[ci]? = some r0) (hcn : r0.1 = M2.1.cls) (hr : (st.map fun v => v.category).sum ≤ 8) (hR : d2 + 1 ≤ R.frames ∧ 8 + (M2.2.2.1 + 11) + 32 * d2 ≤ R.locals) (hf : cells ≤ R.cells ∧ slots ≤ R.slots) (hE : am_Ev SH M2 d2 [.ref k, b1, b2, b3] σ (am_rI P2)) (kk : ∀ x σ2, P2 x σ2 → ge_Go K (lw_B L xs σ2) M R (pc + 3) lv (.int (iZ x) :: st) cells slots) : ge_Go K (lw_B L xs σ) M R pc lv (b3 :: b2 :: b1 :: .ref k :: st) cells slots :=
  lw_call (As := [b1, b2, b3]) hd hL hM hk hci hcn rfl hr hR hf hE (fun r σ2 hq => by obtain ⟨x, rfl, h⟩ := hq; exact kk x σ2 h)
/-- the law's end -/
theorem lw_end (hd : decode code pc = .ok (.ireturn, 1)) : ge_Go lw_K (lw_B L xs σ) mL room_1 pc lv [.int (iZ 1)] 600000 7302250 := by
  intro p l e D dA A h0' s m args below meth c C hO hN hA H locs ls φ hB hLs
  obtain ⟨⟨hargs, hX, hbl, hAe⟩, hP, hS⟩ := hB
  subst hAe
  rw [hargs]
  rw [hargs] at C
  exact va_forget (fun q hq => hS.2.2 q hq) (lw_ret C.1 C.2.1 C.2.2.1 C.2.2.2.2.2.2.1 hd)
end LWR
