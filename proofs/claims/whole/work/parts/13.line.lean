/-! ===== Line: a cell k and its array k + 1 hold a list ===== -/
def hold (σ : am_St) (k n : Nat) (xs : List Int) : Prop := SH[k]? = some (.inr (1, [k + 4, 0])) ∧ SH[k + 1]? = some (.inl (0, n, none)) ∧ n < 2147483648 ∧ σ.1 k 1 = (xs.length : Int) ∧ xs.length ≤ n ∧ (∀ (i : Nat) (x : Int), xs[i]? = some x → σ.2.2 (k + 1) (i : Int) = x) ∧ ∀ x ∈ xs, inR x
def am_off (ks : List Nat) (σ σ' : am_St) : Prop := ∀ p, p ∉ ks → (∀ j, σ'.1 p j = σ.1 p j) ∧ (∀ j, σ'.2.1 p j = σ.2.1 p j) ∧ ∀ i, σ'.2.2 p i = σ.2.2 p i
theorem am_off.rf {ks : List Nat} {σ : am_St} : am_off ks σ σ := fun _ _ => ⟨fun _ => rfl, fun _ => rfl, fun _ => rfl⟩
theorem am_off.tr {ks : List Nat} {σ σ' σ'' : am_St} (h1 : am_off ks σ σ') (h2 : am_off ks σ' σ'') : am_off ks σ σ'' := fun p hp => ⟨fun j => ((h2 p hp).1 j).trans ((h1 p hp).1 j), fun j => ((h2 p hp).2.1 j).trans ((h1 p hp).2.1 j), fun j => ((h2 p hp).2.2 j).trans ((h1 p hp).2.2 j)⟩
theorem am_off.wk {ks ks' : List Nat} {σ σ' : am_St} (h : am_off ks σ σ') (hs : ∀ p ∈ ks, p ∈ ks') : am_off ks' σ σ' := fun p hp => h p (fun q => hp (hs p q))
theorem am_off_si {σ : am_St} {k j : Nat} {v : Int} {ks : List Nat} (hk : k ∈ ks) : am_off ks σ (am_si σ k j v) := fun p hp => ⟨fun i => by
    have : ¬ p = k := fun e => hp (e ▸ hk)
    simp [am_si, this], fun _ => rfl, fun _ => rfl⟩
theorem am_off_sl {σ : am_St} {k j : Nat} {v : Int} {ks : List Nat} (hk : k ∈ ks) : am_off ks σ (am_sl σ k j v) := fun p hp => ⟨fun _ => rfl, fun i => by
    have : ¬ p = k := fun e => hp (e ▸ hk)
    simp [am_sl, this], fun _ => rfl⟩
theorem am_off_sa {σ : am_St} {k : Nat} {j v : Int} {ks : List Nat} (hk : k ∈ ks) : am_off ks σ (am_sa σ k j v) := fun p hp => ⟨fun _ => rfl, fun _ => rfl, fun i => by
    have : ¬ p = k := fun e => hp (e ▸ hk)
    simp [am_sa, this]⟩
theorem hold.off {σ σ' : am_St} {k n : Nat} {xs : List Int} {ks : List Nat} (h : hold σ k n xs) (ho : am_off ks σ σ') (h1 : k ∉ ks) (h2 : k + 1 ∉ ks) : hold σ' k n xs :=
  ⟨h.1, h.2.1, h.2.2.1, ((ho k h1).1 1).trans h.2.2.2.1, h.2.2.2.2.1, fun i x hx => ((ho (k + 1) h2).2.2 i).trans (h.2.2.2.2.2.1 i x hx), h.2.2.2.2.2.2⟩
def ln_at (xs : List Int) (p : Int) : Int := if p < 0 ∨ (xs.length : Int) ≤ p then -101 else xs.getD p.toNat 0
theorem ln_at_in {xs : List Int} {p : Int} {f : Int → Int} (h6 : ∀ (i : Nat) (x : Int), xs[i]? = some x → f (i : Int) = x) (h0 : 0 ≤ p) (h1 : p < xs.length) : f p = ln_at xs p := by
  have hlt : p.toNat < xs.length := by omega
  have := h6 p.toNat (xs[p.toNat]) (List.getElem?_eq_getElem hlt)
  rw [Int.toNat_of_nonneg h0] at this
  unfold ln_at
  rw [if_neg (by omega), this, List.getD_eq_getElem?_getD, List.getElem?_eq_getElem hlt]
  rfl
theorem ln_at_get {xs : List Int} {i : Nat} {x : Int} (h : xs[i]? = some x) : ln_at xs (i : Int) = x := by
  have hlt := (List.getElem?_eq_some_iff.mp h).1
  unfold ln_at
  rw [if_neg (by omega), Int.toNat_natCast, List.getD_eq_getElem?_getD, h]
  rfl
theorem ln_at_R {xs : List Int} {p : Int} (h : ∀ x ∈ xs, inR x) : inR (ln_at xs p) := by
  unfold ln_at
  split
  · unfold inR; omega
  · rename_i hp
    have hlt : p.toNat < xs.length := by omega
    rw [List.getD_eq_getElem?_getD, List.getElem?_eq_getElem hlt]
    exact h _ (List.getElem_mem hlt)
theorem go_aln {sh : am_Sh} {M : am_M} {d : Nat} {Q : Option Value → am_St → Prop} {pc : Nat} {lv : List (Option Value)} {st : List Value} {σ : am_St} {k t n : Nat} {g : Option (Nat → Option Nat)} (hd : decode M.2.1 pc = .ok (.arraylength, 1)) (hk : sh[k]? = some (.inl (t, n, g))) (ht : t < 3) (kk : am_Go sh M d Q (pc + 1) lv (.int (iZ (n : Int)) :: st) σ) : am_Go sh M d Q pc lv (.ref k :: st) σ := go_alen ht hd hk kk
theorem ev_X1_size {σ : am_St} {k n : Nat} {xs : List Int} (h : hold σ k n xs) : am_Ev SH mX1_size 0 [.ref k] σ (am_rI (fun x σ2 => x = xs.length ∧ σ2 = σ)) := by
  obtain ⟨h1, h2, h3, h4, h5, h6, h7⟩ := h
  refine am_ev (by decide) [some (.ref k)] rfl (Nat.le_of_ble_eq_true rfl) ?_
  refine go_aload_n dX1_size_0 rfl ?_
  refine go_geti fl_X1_21 dX1_size_1 (by assumption) rfl ?_
  refine go_retI dX1_size_4 rfl ?_
  exact ⟨h4, rfl⟩
theorem ev_X1_at {σ : am_St} {k n : Nat} {xs : List Int} {p : Int} (h : hold σ k n xs) (hp : inR p) : am_Ev SH mX1_at 0 [.ref k, .int (iZ p)] σ (am_rI (fun x σ2 => x = ln_at xs p ∧ σ2 = σ)) := by
  obtain ⟨h1, h2, h3, h4, h5, h6, h7⟩ := h
  refine am_ev (by decide) [some (.ref k), some (.int (iZ (p)))] rfl (Nat.le_of_ble_eq_true rfl) ?_
  refine go_iload_n dX1_at_0 rfl ?_
  refine go_if_lt (tgt := 12) dX1_at_1 (by decide) hp (fun hp0 => ?_) (fun hp0 => ?_)
  · skip
    refine go_bipush dX1_at_12 rfl ?_
    refine go_goto (tgt := 23) dX1_at_14 (by decide) ?_
    refine go_retI dX1_at_23 rfl ?_
    first | exact ⟨ln_at_in h6 (by omega) (by omega), rfl⟩ | (refine ⟨?_, rfl⟩; unfold ln_at; rw [if_pos (by omega)])
  · skip
    refine go_iload_n dX1_at_4 rfl ?_
    refine go_aload_n dX1_at_5 rfl ?_
    refine go_geti fl_X1_21 dX1_at_6 (by assumption) rfl ?_
    refine go_icmp_lt (tgt := 17) dX1_at_9 (by decide) hp (by unfold inR; omega) (fun hp1 => ?_) (fun hp1 => ?_)
    · skip
      refine go_aload_n dX1_at_17 rfl ?_
      refine go_getr fl_X1_15 dX1_at_18 (by assumption) rfl ?_
      refine go_iload_n dX1_at_21 rfl ?_
      refine go_iaload dX1_at_22 (by first | assumption | rfl) (by first | assumption | exact Nat.le_of_ble_eq_true rfl) (by omega) (by omega) ?_
      refine go_retI dX1_at_23 rfl ?_
      first | exact ⟨ln_at_in h6 (by omega) (by omega), rfl⟩ | (refine ⟨?_, rfl⟩; unfold ln_at; rw [if_pos (by omega)])
    · skip
      refine go_bipush dX1_at_12 rfl ?_
      refine go_goto (tgt := 23) dX1_at_14 (by decide) ?_
      refine go_retI dX1_at_23 rfl ?_
      first | exact ⟨ln_at_in h6 (by omega) (by omega), rfl⟩ | (refine ⟨?_, rfl⟩; unfold ln_at; rw [if_pos (by omega)])
theorem ev_X1_placeOf {σ : am_St} {k n : Nat} {xs : List Int} {item : Int} (h : hold σ k n xs) (hi : inR item) : am_Ev SH mX1_placeOf 0 [.ref k, .int (iZ item)] σ (am_rI (fun x σ2 => ((x = -1 ∧ item ∉ xs) ∨ ∃ j : Nat, x = j ∧ xs[j]? = some item ∧ ∀ i, i < j → xs[i]? ≠ some item) ∧ σ2 = σ)) := by
  obtain ⟨h1, h2, h3, h4, h5, h6, h7⟩ := h
  have loop : ∀ (m : Nat) (i : Int), (xs.length : Int) - i < m → 0 ≤ i → i ≤ xs.length → (∀ j : Nat, (j : Int) < i → xs[j]? ≠ some item) → am_Go SH mX1_placeOf 0 (am_rI (fun x σ2 => ((x = -1 ∧ item ∉ xs) ∨ ∃ j : Nat, x = j ∧ xs[j]? = some item ∧ ∀ i, i < j → xs[i]? ≠ some item) ∧ σ2 = σ)) 2 [some (.ref k), some (.int (iZ item)), some (.int (iZ i))] [] σ := by
    intro m
    induction m with
    | zero => intro i hm h0 hl; exact absurd hm (by omega)
    | succ m ih =>
      intro i hm h0 hl hno
      refine go_iload_n dX1_placeOf_2 rfl ?_
      refine go_aload_n dX1_placeOf_3 rfl ?_
      refine go_geti fl_X1_21 dX1_placeOf_4 (by assumption) rfl ?_
      refine go_icmp_ge (tgt := 28) dX1_placeOf_7 (by decide) (by unfold inR; omega) (by unfold inR; omega) (fun b7 => ?_) (fun b7 => ?_)
      · skip
        refine go_iconst dX1_placeOf_28 ?_
        refine go_retI dX1_placeOf_29 rfl ?_
        refine ⟨Or.inl ⟨rfl, fun hm => ?_⟩, rfl⟩
        obtain ⟨j, hj⟩ := List.getElem?_of_mem hm
        exact hno j (by have := (List.getElem?_eq_some_iff.mp hj).1; omega) hj
      · skip
        refine go_aload_n dX1_placeOf_10 rfl ?_
        refine go_getr fl_X1_15 dX1_placeOf_11 (by assumption) rfl ?_
        refine go_iload_n dX1_placeOf_14 rfl ?_
        refine go_iaload dX1_placeOf_15 (by first | assumption | rfl) (by first | assumption | exact Nat.le_of_ble_eq_true rfl) (by omega) (by omega) ?_
        have hlt : i.toNat < xs.length := by omega
        have hat : σ.2.2 (k + 1) i = xs[i.toNat] := by have := h6 i.toNat _ (List.getElem?_eq_getElem hlt); rwa [Int.toNat_of_nonneg h0] at this
        have hR : inR (σ.2.2 (k + 1) i) := by rw [hat]; exact h7 _ (List.getElem_mem hlt)
        refine go_iload_n dX1_placeOf_16 rfl ?_
        refine go_icmp_ne (tgt := 22) dX1_placeOf_17 (by decide) hR hi (fun b17 => ?_) (fun b17 => ?_)
        · skip
          refine go_inc2 dX1_placeOf_22 (Nat.le_of_ble_eq_true rfl) rfl ?_
          refine go_goto (tgt := 2) dX1_placeOf_25 (by decide) ?_
          refine ih (i + 1) (by omega) (by omega) (by omega) (fun j hj hc => ?_)
          by_cases hji : (j : Int) = i
          · have := h6 j item hc; rw [hji] at this; exact b17 this
          · exact hno j (by omega) hc
        · skip
          refine go_iload_n dX1_placeOf_20 rfl ?_
          refine go_retI dX1_placeOf_21 rfl ?_
          exact ⟨Or.inr ⟨i.toNat, by omega, by rw [List.getElem?_eq_getElem hlt, ← hat, b17], fun j hj => hno j (by omega)⟩, rfl⟩
  refine am_ev (by decide) [some (.ref k), some (.int (iZ (item))), none] rfl (Nat.le_of_ble_eq_true rfl) ?_
  refine go_iconst dX1_placeOf_0 ?_
  refine go_ist2 dX1_placeOf_1 (Nat.le_of_ble_eq_true rfl) rfl ?_
  exact loop (xs.length + 1) 0 (by omega) (by omega) (by omega) (fun j hj => absurd hj (by omega))
theorem ev_X1_clear {σ : am_St} {k n : Nat} {xs : List Int} (h : hold σ k n xs) : am_Ev SH mX1_clear 0 [.ref k] σ (am_rV (fun σ2 => hold σ2 k n [] ∧ am_off [k, k + 1] σ σ2)) := by
  obtain ⟨h1, h2, h3, h4, h5, h6, h7⟩ := h
  refine am_ev (by decide) [some (.ref k)] rfl (Nat.le_of_ble_eq_true rfl) ?_
  refine go_aload_n dX1_clear_0 rfl ?_
  refine go_iconst dX1_clear_1 ?_
  refine go_puti fl_X1_21 dX1_clear_2 (by assumption) rfl am_fit_int ?_
  refine go_retV dX1_clear_5 rfl ?_
  refine ⟨⟨h1, h2, h3, by simp [am_si], Nat.zero_le _, fun i x hx => by simp at hx, fun x hx => by simp at hx⟩, am_off_si (by simp)⟩
theorem ev_X1_add {σ : am_St} {k n : Nat} {xs : List Int} {item : Int} (h : hold σ k n xs) (hi : inR item) (hlen : xs.length < n) : am_Ev SH mX1_add 0 [.ref k, .int (iZ item)] σ (am_rV (fun σ2 => hold σ2 k n (xs ++ [item]) ∧ am_off [k, k + 1] σ σ2)) := by
  obtain ⟨h1, h2, h3, h4, h5, h6, h7⟩ := h
  refine am_ev (by decide) [some (.ref k), some (.int (iZ (item)))] rfl (Nat.le_of_ble_eq_true rfl) ?_
  refine go_aload_n dX1_add_0 rfl ?_
  refine go_geti fl_X1_21 dX1_add_1 (by assumption) rfl ?_
  refine go_aload_n dX1_add_4 rfl ?_
  refine go_getr fl_X1_15 dX1_add_5 (by assumption) rfl ?_
  refine go_aln dX1_add_8 (by first | assumption | rfl) (by decide) ?_
  refine go_icmp_ge (tgt := 32) dX1_add_9 (by decide) (by unfold inR; omega) (by unfold inR; omega) (fun b9 => ?_) (fun b9 => ?_)
  · skip
    exact absurd b9 (by omega)
  · skip
    refine go_aload_n dX1_add_12 rfl ?_
    refine go_getr fl_X1_15 dX1_add_13 (by assumption) rfl ?_
    refine go_aload_n dX1_add_16 rfl ?_
    refine go_geti fl_X1_21 dX1_add_17 (by assumption) rfl ?_
    refine go_iload_n dX1_add_20 rfl ?_
    refine go_iastore dX1_add_21 (by first | assumption | rfl) (by first | assumption | exact Nat.le_of_ble_eq_true rfl) (by omega) (by omega) ?_
    refine go_aload_n dX1_add_22 rfl ?_
    refine go_dup dX1_add_23 rfl ?_
    refine go_geti fl_X1_21 dX1_add_24 (by assumption) rfl ?_
    refine go_iconst dX1_add_27 ?_
    refine go_iadd dX1_add_28 ?_
    refine go_puti fl_X1_21 dX1_add_29 (by assumption) rfl am_fit_int ?_
    refine go_retV dX1_add_32 rfl ?_
    refine ⟨⟨h1, h2, h3, ?_, ?_, fun i x hx => ?_, fun x hx => ?_⟩, (am_off_sa (by simp)).tr (am_off_si (by simp))⟩
    · simp [am_si, am_sa, h4]
    · simp; omega
    · simp only [am_si, am_sa]
      by_cases hix : i = xs.length
      · subst hix; rw [List.getElem?_append_right (Nat.le_refl _)] at hx; simp at hx; simp [h4, hx]
      · have hl : i < xs.length := by have := (List.getElem?_eq_some_iff.mp hx).1; simp at this; omega
        rw [List.getElem?_append_left hl] at hx
        rw [if_neg (by omega)]; exact h6 i x hx
    · rcases List.mem_append.mp hx with hx | hx
      · exact h7 x hx
      · simp at hx; rw [hx]; exact hi
