/-! ===== Line: addWord, copy, remove, sort, isSame, isBefore ===== -/
/-- the characters of a word, from the o-th from the end on -/
def wd_cs (w : Int) : Nat → List Int
  | 0 => []
  | o + 1 => wd_fe w (o : Int) :: wd_cs w o
theorem wd_fe_R (w o : Int) : inR (wd_fe w o) := am_and_R _ _
theorem wd_cs_len (w : Int) : ∀ o, (wd_cs w o).length = o
  | 0 => rfl
  | o + 1 => by show (wd_cs w o).length + 1 = _; rw [wd_cs_len w o]
theorem ev_X1_addWord {σ : am_St} {k n : Nat} {xs : List Int} {w : Int} (h : hold σ k n xs) (hw : inR w) (hlen : xs.length + (wd_sz w).toNat ≤ n) : am_Ev SH mX1_addWord 1 [.ref k, .int (iZ w)] σ (am_rV (fun σ2 => hold σ2 k n (xs ++ wd_cs w (wd_sz w).toNat) ∧ am_off [k, k + 1] σ σ2)) := by
  have hz := wd_sz_bd w
  have loop : ∀ (m : Nat) (ys : List Int) (σ1 : am_St), hold σ1 k n ys → ys.length + m ≤ n → am_off [k, k + 1] σ σ1 → (m : Int) ≤ 4 → ys ++ wd_cs w m = xs ++ wd_cs w (wd_sz w).toNat → am_Go SH mX1_addWord 1 (am_rV (fun σ2 => hold σ2 k n (xs ++ wd_cs w (wd_sz w).toNat) ∧ am_off [k, k + 1] σ σ2)) 7 [some (.ref k), some (.int (iZ w)), some (.int (iZ ((m : Int) - 1)))] [] σ1 := by
    intro m
    induction m with
    | zero =>
      intro ys σ1 hh hl ho hm he
      have h1 := hh.1
      refine go_iload_n dX1_addWord_7 rfl ?_
      refine go_if_lt (tgt := 26) dX1_addWord_8 (by decide) (by unfold inR; omega) (fun b8 => ?_) (fun b8 => ?_)
      · skip
        refine go_retV dX1_addWord_26 rfl ?_
        exact ⟨by rw [← he]; simpa [wd_cs] using hh, ho⟩
      · skip
        omega
    | succ m ih =>
      intro ys σ1 hh hl ho hm he
      have h1 := hh.1
      refine go_iload_n dX1_addWord_7 rfl ?_
      refine go_if_lt (tgt := 26) dX1_addWord_8 (by decide) (by unfold inR; omega) (fun b8 => ?_) (fun b8 => ?_)
      · skip
        exact absurd b8 (by omega)
      · skip
        refine go_aload_n dX1_addWord_11 rfl ?_
        refine go_iload_n dX1_addWord_12 rfl ?_
        refine go_iload_n dX1_addWord_13 rfl ?_
        refine go_csP2 (M2 := mX9_fromEnd) dX1_addWord_14 ml_X1_30 ms_X9_fromEnd (Nat.le_of_ble_eq_true rfl) (by decide) (ev_X9_fromEnd) ?_
        refine go_cvV1 (M2 := mX1_add) dX1_addWord_17 ml_X1_33 mv_X1_add (by assumption) rfl rfl (Nat.le_of_ble_eq_true rfl) (by decide) (ev_X1_add hh (wd_fe_R _ _) (by omega)) (fun σ2 hq => ?_)
        refine go_inc2 dX1_addWord_20 (Nat.le_of_ble_eq_true rfl) rfl ?_
        refine go_goto (tgt := 7) dX1_addWord_23 (by decide) ?_
        have e1 : (↑(m + 1) : Int) - 1 = (m : Int) := by omega
        rw [e1] at hq
        have e2 : (↑(m + 1) : Int) - 1 + -1 = (m : Int) - 1 := by omega
        rw [e2]
        exact ih (ys ++ [wd_fe w m]) σ2 hq.1 (by simp; omega) (ho.tr hq.2) (by omega) (by rw [← he]; simp [wd_cs])
  refine am_ev (by decide) [some (.ref k), some (.int (iZ (w))), none] rfl (Nat.le_of_ble_eq_true rfl) ?_
  refine go_iload_n dX1_addWord_0 rfl ?_
  refine go_csP1 (M2 := mX9_size) dX1_addWord_1 ml_X1_25 ms_X9_size (Nat.le_of_ble_eq_true rfl) (by decide) (ev_X9_size hw) ?_
  refine go_iconst dX1_addWord_4 ?_
  refine go_isub dX1_addWord_5 ?_
  refine go_ist2 dX1_addWord_6 (Nat.le_of_ble_eq_true rfl) rfl ?_
  have e0 : wd_sz w - 1 = ((wd_sz w).toNat : Int) - 1 := by omega
  rw [e0]
  exact loop (wd_sz w).toNat xs σ h hlen am_off.rf (by omega) rfl
theorem ev_X1_copy {σ : am_St} {k n k2 n2 : Nat} {xs ys : List Int} (h : hold σ k n xs) (g : hold σ k2 n2 ys) (hlen : ys.length ≤ n) (hne : k2 ≠ k) (hne2 : k2 + 1 ≠ k) (hne3 : k2 ≠ k + 1) : am_Ev SH mX1_copy 0 [.ref k, .ref k2] σ (am_rV (fun σ2 => hold σ2 k n ys ∧ am_off [k, k + 1] σ σ2)) := by
  obtain ⟨h1, h2, h3, h4, h5, h6, h7⟩ := h
  obtain ⟨g1, g2, g3, g4, g5, g6, g7⟩ := g
  have loop : ∀ (m : Nat) (i : Int) (σ1 : am_St), (ys.length : Int) - i < m → 0 ≤ i → i ≤ ys.length → σ1.1 k 1 = ys.length → am_off [k, k + 1] σ σ1 → (∀ (j : Nat) (x : Int), (j : Int) < i → ys[j]? = some x → σ1.2.2 (k + 1) (j : Int) = x) → am_Go SH mX1_copy 0 (am_rV (fun σ2 => hold σ2 k n ys ∧ am_off [k, k + 1] σ σ2)) 30 [some (.ref k), some (.ref k2), some (.int (iZ i))] [] σ1 := by
    intro m
    induction m with
    | zero => intro i σ1 hm h0 hl; exact absurd hm (by omega)
    | succ m ih =>
      intro i σ1 hm h0 hl hs ho hin
      have hk2 := ho (k2 + 1) (by simp; omega)
      refine go_iload_n dX1_copy_30 rfl ?_
      refine go_aload_n dX1_copy_31 rfl ?_
      refine go_geti fl_X1_21 dX1_copy_32 (by assumption) rfl ?_
      refine go_icmp_ge (tgt := 56) dX1_copy_35 (by decide) (by unfold inR; omega) (by unfold inR; omega) (fun b35 => ?_) (fun b35 => ?_)
      · skip
        refine go_retV dX1_copy_56 rfl ?_
        exact ⟨⟨h1, h2, h3, hs, hlen, fun j x hx => hin j x (by have := (List.getElem?_eq_some_iff.mp hx).1; omega) hx, g7⟩, ho⟩
      · skip
        refine go_aload_n dX1_copy_38 rfl ?_
        refine go_getr fl_X1_15 dX1_copy_39 (by assumption) rfl ?_
        refine go_iload_n dX1_copy_42 rfl ?_
        refine go_aload_n dX1_copy_43 rfl ?_
        refine go_getr fl_X1_15 dX1_copy_44 (by assumption) rfl ?_
        refine go_iload_n dX1_copy_47 rfl ?_
        refine go_iaload dX1_copy_48 (by first | assumption | rfl) (by first | assumption | exact Nat.le_of_ble_eq_true rfl) (by omega) (by omega) ?_
        refine go_iastore dX1_copy_49 (by first | assumption | rfl) (by first | assumption | exact Nat.le_of_ble_eq_true rfl) (by omega) (by omega) ?_
        refine go_inc2 dX1_copy_50 (Nat.le_of_ble_eq_true rfl) rfl ?_
        refine go_goto (tgt := 30) dX1_copy_53 (by decide) ?_
        refine ih (i + 1) _ (by omega) (by omega) (by omega) hs (ho.tr (am_off_sa (by simp))) (fun j x hj hx => ?_)
        simp only [am_sa]
        by_cases hji : (j : Int) = i
        · rw [if_pos ⟨trivial, hji⟩, hk2.2.2]; rw [← hji]; exact g6 j x hx
        · rw [if_neg (by simp [hji])]; exact hin j x (by omega) hx
  refine am_ev (by decide) [some (.ref k), some (.ref k2), none] rfl (Nat.le_of_ble_eq_true rfl) ?_
  refine go_aload_n dX1_copy_0 rfl ?_
  refine go_aload_n dX1_copy_1 rfl ?_
  refine go_geti fl_X1_21 dX1_copy_2 (by assumption) rfl ?_
  refine go_aload_n dX1_copy_5 rfl ?_
  refine go_getr fl_X1_15 dX1_copy_6 (by assumption) rfl ?_
  refine go_aln dX1_copy_9 (by first | assumption | rfl) (by decide) ?_
  refine go_icmp_ge (tgt := 20) dX1_copy_10 (by decide) (by unfold inR; omega) (by unfold inR; omega) (fun b10 => ?_) (fun b10 => ?_)
  · skip
    refine go_aload_n dX1_copy_20 rfl ?_
    refine go_getr fl_X1_15 dX1_copy_21 (by assumption) rfl ?_
    refine go_aln dX1_copy_24 (by first | assumption | rfl) (by decide) ?_
    refine go_puti fl_X1_21 dX1_copy_25 (by assumption) rfl am_fit_int ?_
    refine go_iconst dX1_copy_28 ?_
    refine go_ist2 dX1_copy_29 (Nat.le_of_ble_eq_true rfl) rfl ?_
    refine loop (ys.length + 1) 0 _ (by omega) (by omega) (by omega) ?_ (am_off_si (by simp)) (fun j x hj => absurd hj (by omega))
    simp [am_si]; omega
  · skip
    refine go_aload_n dX1_copy_13 rfl ?_
    refine go_geti fl_X1_21 dX1_copy_14 (by assumption) rfl ?_
    refine go_goto (tgt := 25) dX1_copy_17 (by decide) ?_
    refine go_puti fl_X1_21 dX1_copy_25 (by assumption) rfl am_fit_int ?_
    refine go_iconst dX1_copy_28 ?_
    refine go_ist2 dX1_copy_29 (Nat.le_of_ble_eq_true rfl) rfl ?_
    refine loop (ys.length + 1) 0 _ (by omega) (by omega) (by omega) ?_ (am_off_si (by simp)) (fun j x hj => absurd hj (by omega))
    simp [am_si]; omega
theorem ev_X1_remove {σ : am_St} {k n : Nat} {xs : List Int} {p : Int} (h : hold σ k n xs) (h0 : 0 ≤ p) (hp : p < xs.length) : am_Ev SH mX1_remove 0 [.ref k, .int (iZ p)] σ (am_rV (fun σ2 => hold σ2 k n (xs.eraseIdx p.toNat) ∧ am_off [k, k + 1] σ σ2)) := by
  obtain ⟨h1, h2, h3, h4, h5, h6, h7⟩ := h
  have loop : ∀ (m : Nat) (i : Int) (σ1 : am_St), (xs.length : Int) - i < m → p < i → i ≤ xs.length → σ1.1 k 1 = xs.length → am_off [k, k + 1] σ σ1 → (∀ j : Int, 0 ≤ j → j < xs.length → σ1.2.2 (k + 1) j = if p ≤ j ∧ j < i - 1 then σ.2.2 (k + 1) (j + 1) else σ.2.2 (k + 1) j) → am_Go SH mX1_remove 0 (am_rV (fun σ2 => hold σ2 k n (xs.eraseIdx p.toNat) ∧ am_off [k, k + 1] σ σ2)) 17 [some (.ref k), some (.int (iZ p)), some (.int (iZ i))] [] σ1 := by
    intro m
    induction m with
    | zero => intro i σ1 hm h0 hl; exact absurd hm (by omega)
    | succ m ih =>
      intro i σ1 hm hpi hl hs ho hin
      refine go_iload_n dX1_remove_17 rfl ?_
      refine go_aload_n dX1_remove_18 rfl ?_
      refine go_geti fl_X1_21 dX1_remove_19 (by assumption) rfl ?_
      refine go_icmp_ge (tgt := 45) dX1_remove_22 (by decide) (by unfold inR; omega) (by unfold inR; omega) (fun b22 => ?_) (fun b22 => ?_)
      · skip
        refine go_aload_n dX1_remove_45 rfl ?_
        refine go_dup dX1_remove_46 rfl ?_
        refine go_geti fl_X1_21 dX1_remove_47 (by assumption) rfl ?_
        refine go_iconst dX1_remove_50 ?_
        refine go_isub dX1_remove_51 ?_
        refine go_puti fl_X1_21 dX1_remove_52 (by assumption) rfl am_fit_int ?_
        refine go_retV dX1_remove_55 rfl ?_
        refine ⟨⟨h1, h2, h3, ?_, ?_, fun j x hx => ?_, fun x hx => h7 x (List.mem_of_mem_eraseIdx hx)⟩, ho.tr (am_off_si (by simp))⟩
        · simp only [am_si]; rw [if_pos ⟨trivial, trivial⟩, List.length_eraseIdx, if_pos (by omega)]; omega
        · have := List.length_eraseIdx_le xs p.toNat; omega
        · have hj := (List.getElem?_eq_some_iff.mp hx).1
          rw [List.length_eraseIdx, if_pos (by omega)] at hj
          rw [List.getElem?_eraseIdx] at hx
          show σ1.2.2 (k + 1) (j : Int) = x
          rw [hin j (by omega) (by omega)]
          split at hx
          · rw [if_neg (by omega)]; exact h6 j x hx
          · rw [if_pos (by omega)]; exact h6 (j + 1) x hx
      · skip
        refine go_aload_n dX1_remove_25 rfl ?_
        refine go_getr fl_X1_15 dX1_remove_26 (by assumption) rfl ?_
        refine go_iload_n dX1_remove_29 rfl ?_
        refine go_iconst dX1_remove_30 ?_
        refine go_isub dX1_remove_31 ?_
        refine go_aload_n dX1_remove_32 rfl ?_
        refine go_getr fl_X1_15 dX1_remove_33 (by assumption) rfl ?_
        refine go_iload_n dX1_remove_36 rfl ?_
        refine go_iaload dX1_remove_37 (by first | assumption | rfl) (by first | assumption | exact Nat.le_of_ble_eq_true rfl) (by omega) (by omega) ?_
        refine go_iastore dX1_remove_38 (by first | assumption | rfl) (by first | assumption | exact Nat.le_of_ble_eq_true rfl) (by omega) (by omega) ?_
        refine go_inc2 dX1_remove_39 (Nat.le_of_ble_eq_true rfl) rfl ?_
        refine go_goto (tgt := 17) dX1_remove_42 (by decide) ?_
        refine ih (i + 1) _ (by omega) (by omega) (by omega) hs (ho.tr (am_off_sa (by simp))) (fun j hj0 hj => ?_)
        simp only [am_sa]
        by_cases hji : j = i - 1
        · rw [if_pos ⟨trivial, hji⟩, hin i (by omega) (by omega), if_neg (by omega), if_pos (by omega), show j + 1 = i by omega]
        · rw [if_neg (by simp [hji]), hin j hj0 hj]; by_cases hc : p ≤ j ∧ j < i - 1
          · rw [if_pos hc, if_pos (by omega)]
          · rw [if_neg hc, if_neg (by omega)]
  refine am_ev (by decide) [some (.ref k), some (.int (iZ (p))), none] rfl (Nat.le_of_ble_eq_true rfl) ?_
  refine go_iload_n dX1_remove_0 rfl ?_
  refine go_if_lt (tgt := 12) dX1_remove_1 (by decide) (by unfold inR; omega) (fun b1 => ?_) (fun b1 => ?_)
  · skip
    exact absurd b1 (by omega)
  · skip
    refine go_iload_n dX1_remove_4 rfl ?_
    refine go_aload_n dX1_remove_5 rfl ?_
    refine go_geti fl_X1_21 dX1_remove_6 (by assumption) rfl ?_
    refine go_icmp_lt (tgt := 13) dX1_remove_9 (by decide) (by unfold inR; omega) (by unfold inR; omega) (fun b9 => ?_) (fun b9 => ?_)
    · skip
      refine go_iload_n dX1_remove_13 rfl ?_
      refine go_iconst dX1_remove_14 ?_
      refine go_iadd dX1_remove_15 ?_
      refine go_ist2 dX1_remove_16 (Nat.le_of_ble_eq_true rfl) rfl ?_
      exact loop (xs.length + 1) (p + 1) σ (by omega) (by omega) (by omega) h4 am_off.rf (fun j hj0 hj => by rw [if_neg (by omega)])
    · skip
      exact absurd b9 (by omega)
theorem ev_X1_isSame {σ : am_St} {k n k2 n2 : Nat} {xs ys : List Int} (h : hold σ k n xs) (g : hold σ k2 n2 ys) : am_Ev SH mX1_isSame 0 [.ref k, .ref k2] σ (am_rI (fun x σ2 => x = (if xs = ys then 1 else 0) ∧ σ2 = σ)) := by
  obtain ⟨h1, h2, h3, h4, h5, h6, h7⟩ := h
  obtain ⟨g1, g2, g3, g4, g5, g6, g7⟩ := g
  have loop : ∀ (m : Nat) (i : Int), (xs.length : Int) - i < m → 0 ≤ i → i ≤ xs.length → xs.length = ys.length → (∀ j : Nat, (j : Int) < i → xs[j]? = ys[j]?) → am_Go SH mX1_isSame 0 (am_rI (fun x σ2 => x = (if xs = ys then 1 else 0) ∧ σ2 = σ)) 15 [some (.ref k), some (.ref k2), some (.int (iZ i))] [] σ := by
    intro m
    induction m with
    | zero => intro i hm h0 hl; exact absurd hm (by omega)
    | succ m ih =>
      intro i hm h0 hl hxy hin
      refine go_iload_n dX1_isSame_15 rfl ?_
      refine go_aload_n dX1_isSame_16 rfl ?_
      refine go_geti fl_X1_21 dX1_isSame_17 (by assumption) rfl ?_
      refine go_icmp_ge (tgt := 46) dX1_isSame_20 (by decide) (by unfold inR; omega) (by unfold inR; omega) (fun b20 => ?_) (fun b20 => ?_)
      · skip
        refine go_iconst dX1_isSame_46 ?_
        refine go_retZ dX1_isSame_47 rfl (by omega) ?_
        refine ⟨?_, rfl⟩
        rw [if_pos]
        apply List.ext_getElem?
        intro j
        by_cases hj : j < xs.length
        · exact hin j (by omega)
        · rw [List.getElem?_eq_none (by omega), List.getElem?_eq_none (by omega)]
      · skip
        refine go_aload_n dX1_isSame_23 rfl ?_
        refine go_getr fl_X1_15 dX1_isSame_24 (by assumption) rfl ?_
        refine go_iload_n dX1_isSame_27 rfl ?_
        refine go_iaload dX1_isSame_28 (by first | assumption | rfl) (by first | assumption | exact Nat.le_of_ble_eq_true rfl) (by omega) (by omega) ?_
        refine go_aload_n dX1_isSame_29 rfl ?_
        refine go_getr fl_X1_15 dX1_isSame_30 (by assumption) rfl ?_
        refine go_iload_n dX1_isSame_33 rfl ?_
        refine go_iaload dX1_isSame_34 (by first | assumption | rfl) (by first | assumption | exact Nat.le_of_ble_eq_true rfl) (by omega) (by omega) ?_
        have hlt : i.toNat < xs.length := by omega
        have hlt2 : i.toNat < ys.length := by omega
        have e1 : σ.2.2 (k + 1) i = xs[i.toNat] := by have := h6 i.toNat _ (List.getElem?_eq_getElem hlt); rwa [Int.toNat_of_nonneg h0] at this
        have e2 : σ.2.2 (k2 + 1) i = ys[i.toNat] := by have := g6 i.toNat _ (List.getElem?_eq_getElem hlt2); rwa [Int.toNat_of_nonneg h0] at this
        refine go_icmp_eq (tgt := 40) dX1_isSame_35 (by decide) (by rw [e1]; exact h7 _ (List.getElem_mem hlt)) (by rw [e2]; exact g7 _ (List.getElem_mem hlt2)) (fun b35 => ?_) (fun b35 => ?_)
        · skip
          refine go_inc2 dX1_isSame_40 (Nat.le_of_ble_eq_true rfl) rfl ?_
          refine go_goto (tgt := 15) dX1_isSame_43 (by decide) ?_
          refine ih (i + 1) (by omega) (by omega) (by omega) hxy (fun j hj => ?_)
          by_cases hji : (j : Int) = i
          · have hj : j = i.toNat := by omega
            subst hj; rw [List.getElem?_eq_getElem hlt, List.getElem?_eq_getElem hlt2, ← e1, ← e2, b35]
          · exact hin j (by omega)
        · skip
          refine go_iconst dX1_isSame_38 ?_
          refine go_retZ dX1_isSame_39 rfl (by omega) ?_
          refine ⟨?_, rfl⟩
          rw [if_neg (fun e => b35 (by rw [e1, e2]; subst e; rfl))]
  refine am_ev (by decide) [some (.ref k), some (.ref k2), none] rfl (Nat.le_of_ble_eq_true rfl) ?_
  refine go_aload_n dX1_isSame_0 rfl ?_
  refine go_geti fl_X1_21 dX1_isSame_1 (by assumption) rfl ?_
  refine go_aload_n dX1_isSame_4 rfl ?_
  refine go_geti fl_X1_21 dX1_isSame_5 (by assumption) rfl ?_
  refine go_icmp_eq (tgt := 13) dX1_isSame_8 (by decide) (by unfold inR; omega) (by unfold inR; omega) (fun b8 => ?_) (fun b8 => ?_)
  · skip
    refine go_iconst dX1_isSame_13 ?_
    refine go_ist2 dX1_isSame_14 (Nat.le_of_ble_eq_true rfl) rfl ?_
    exact loop (xs.length + 1) 0 (by omega) (by omega) (by omega) (by omega) (fun j hj => absurd hj (by omega))
  · skip
    refine go_iconst dX1_isSame_11 ?_
    refine go_retZ dX1_isSame_12 rfl (by omega) ?_
    refine ⟨?_, rfl⟩
    rw [if_neg (fun e => b8 (by rw [h4, g4, e]))]
/-- shorter, or as long and earlier by its numbers -/
def ln_bf (xs ys : List Int) : Prop := xs.length < ys.length ∨ (xs.length = ys.length ∧ ∃ i : Nat, (∀ j, j < i → xs[j]? = ys[j]?) ∧ ∃ a b, xs[i]? = some a ∧ ys[i]? = some b ∧ a < b)
theorem ev_X1_isBefore {σ : am_St} {k n k2 n2 : Nat} {xs ys : List Int} (h : hold σ k n xs) (g : hold σ k2 n2 ys) : am_Ev SH mX1_isBefore 0 [.ref k, .ref k2] σ (am_rI (fun x σ2 => ((x = 1 ∧ ln_bf xs ys) ∨ (x = 0 ∧ ¬ ln_bf xs ys)) ∧ σ2 = σ)) := by
  obtain ⟨h1, h2, h3, h4, h5, h6, h7⟩ := h
  obtain ⟨g1, g2, g3, g4, g5, g6, g7⟩ := g
  have loop : ∀ (m : Nat) (i : Int), (xs.length : Int) - i < m → 0 ≤ i → i ≤ xs.length → xs.length = ys.length → (∀ j : Nat, (j : Int) < i → xs[j]? = ys[j]?) → am_Go SH mX1_isBefore 0 (am_rI (fun x σ2 => ((x = 1 ∧ ln_bf xs ys) ∨ (x = 0 ∧ ¬ ln_bf xs ys)) ∧ σ2 = σ)) 30 [some (.ref k), some (.ref k2), some (.int (iZ i))] [] σ := by
    intro m
    induction m with
    | zero => intro i hm h0 hl; exact absurd hm (by omega)
    | succ m ih =>
      intro i hm h0 hl hxy hin
      refine go_iload_n dX1_isBefore_30 rfl ?_
      refine go_aload_n dX1_isBefore_31 rfl ?_
      refine go_geti fl_X1_21 dX1_isBefore_32 (by assumption) rfl ?_
      refine go_icmp_ge (tgt := 80) dX1_isBefore_35 (by decide) (by unfold inR; omega) (by unfold inR; omega) (fun b35 => ?_) (fun b35 => ?_)
      · skip
        refine go_iconst dX1_isBefore_80 ?_
        refine go_retZ dX1_isBefore_81 rfl (by omega) ?_
        refine ⟨Or.inr ⟨rfl, fun hb => ?_⟩, rfl⟩
        rcases hb with hb | ⟨-, i2, hb1, a, b, hb2, hb3, hb4⟩
        · omega
        · have := (List.getElem?_eq_some_iff.mp hb2).1
          have := hin i2 (by omega); rw [hb2, hb3] at this; have := Option.some.inj this; omega
      · skip
        have hlt : i.toNat < xs.length := by omega
        have hlt2 : i.toNat < ys.length := by omega
        have e1 : σ.2.2 (k + 1) i = xs[i.toNat] := by have := h6 i.toNat _ (List.getElem?_eq_getElem hlt); rwa [Int.toNat_of_nonneg h0] at this
        have e2 : σ.2.2 (k2 + 1) i = ys[i.toNat] := by have := g6 i.toNat _ (List.getElem?_eq_getElem hlt2); rwa [Int.toNat_of_nonneg h0] at this
        have r1 : inR (σ.2.2 (k + 1) i) := by rw [e1]; exact h7 _ (List.getElem_mem hlt)
        have r2 : inR (σ.2.2 (k2 + 1) i) := by rw [e2]; exact g7 _ (List.getElem_mem hlt2)
        refine go_aload_n dX1_isBefore_38 rfl ?_
        refine go_getr fl_X1_15 dX1_isBefore_39 (by assumption) rfl ?_
        refine go_iload_n dX1_isBefore_42 rfl ?_
        refine go_iaload dX1_isBefore_43 (by first | assumption | rfl) (by first | assumption | exact Nat.le_of_ble_eq_true rfl) (by omega) (by omega) ?_
        refine go_aload_n dX1_isBefore_44 rfl ?_
        refine go_getr fl_X1_15 dX1_isBefore_45 (by assumption) rfl ?_
        refine go_iload_n dX1_isBefore_48 rfl ?_
        refine go_iaload dX1_isBefore_49 (by first | assumption | rfl) (by first | assumption | exact Nat.le_of_ble_eq_true rfl) (by omega) (by omega) ?_
        refine go_icmp_eq (tgt := 74) dX1_isBefore_50 (by decide) r1 r2 (fun b50 => ?_) (fun b50 => ?_)
        · skip
          refine go_inc2 dX1_isBefore_74 (Nat.le_of_ble_eq_true rfl) rfl ?_
          refine go_goto (tgt := 30) dX1_isBefore_77 (by decide) ?_
          refine ih (i + 1) (by omega) (by omega) (by omega) hxy (fun j hj => ?_)
          by_cases hji : (j : Int) = i
          · have hj : j = i.toNat := by omega
            subst hj; rw [List.getElem?_eq_getElem hlt, List.getElem?_eq_getElem hlt2, ← e1, ← e2, b50]
          · exact hin j (by omega)
        · skip
          refine go_aload_n dX1_isBefore_53 rfl ?_
          refine go_getr fl_X1_15 dX1_isBefore_54 (by assumption) rfl ?_
          refine go_iload_n dX1_isBefore_57 rfl ?_
          refine go_iaload dX1_isBefore_58 (by first | assumption | rfl) (by first | assumption | exact Nat.le_of_ble_eq_true rfl) (by omega) (by omega) ?_
          refine go_aload_n dX1_isBefore_59 rfl ?_
          refine go_getr fl_X1_15 dX1_isBefore_60 (by assumption) rfl ?_
          refine go_iload_n dX1_isBefore_63 rfl ?_
          refine go_iaload dX1_isBefore_64 (by first | assumption | rfl) (by first | assumption | exact Nat.le_of_ble_eq_true rfl) (by omega) (by omega) ?_
          refine go_icmp_ge (tgt := 72) dX1_isBefore_65 (by decide) r1 r2 (fun b65 => ?_) (fun b65 => ?_)
          · skip
            refine go_iconst dX1_isBefore_72 ?_
            refine go_retZ dX1_isBefore_73 rfl (by omega) ?_
            first | exact ⟨Or.inl ⟨rfl, hb⟩, rfl⟩ | skip
            all_goals refine ⟨Or.inr ⟨rfl, fun hb => ?_⟩, rfl⟩
            all_goals rcases hb with hb | ⟨-, i2, hb1, a, b, hb2, hb3, hb4⟩
            all_goals first | omega | skip
            all_goals rcases Nat.lt_trichotomy i2 i.toNat with q | q | q
            all_goals first | (have := hin i2 (by omega); rw [hb2, hb3] at this; have := Option.some.inj this; omega) | (subst q; rw [List.getElem?_eq_getElem hlt] at hb2; rw [List.getElem?_eq_getElem hlt2] at hb3; have := Option.some.inj hb2; have := Option.some.inj hb3; omega) | (have := hb1 _ q; rw [List.getElem?_eq_getElem hlt, List.getElem?_eq_getElem hlt2] at this; have := Option.some.inj this; omega)
          · skip
            refine go_iconst dX1_isBefore_68 ?_
            have hb : ln_bf xs ys := Or.inr ⟨hxy, i.toNat, fun j hj => hin j (by omega), _, _, List.getElem?_eq_getElem hlt, List.getElem?_eq_getElem hlt2, by omega⟩
            refine go_goto (tgt := 73) dX1_isBefore_69 (by decide) ?_
            refine go_retZ dX1_isBefore_73 rfl (by omega) ?_
            first | exact ⟨Or.inl ⟨rfl, hb⟩, rfl⟩ | skip
            all_goals refine ⟨Or.inr ⟨rfl, fun hb => ?_⟩, rfl⟩
            all_goals rcases hb with hb | ⟨-, i2, hb1, a, b, hb2, hb3, hb4⟩
            all_goals first | omega | skip
            all_goals rcases Nat.lt_trichotomy i2 i.toNat with q | q | q
            all_goals first | (have := hin i2 (by omega); rw [hb2, hb3] at this; have := Option.some.inj this; omega) | (subst q; rw [List.getElem?_eq_getElem hlt] at hb2; rw [List.getElem?_eq_getElem hlt2] at hb3; have := Option.some.inj hb2; have := Option.some.inj hb3; omega) | (have := hb1 _ q; rw [List.getElem?_eq_getElem hlt, List.getElem?_eq_getElem hlt2] at this; have := Option.some.inj this; omega)
  refine am_ev (by decide) [some (.ref k), some (.ref k2), none] rfl (Nat.le_of_ble_eq_true rfl) ?_
  refine go_aload_n dX1_isBefore_0 rfl ?_
  refine go_geti fl_X1_21 dX1_isBefore_1 (by assumption) rfl ?_
  refine go_aload_n dX1_isBefore_4 rfl ?_
  refine go_geti fl_X1_21 dX1_isBefore_5 (by assumption) rfl ?_
  refine go_icmp_eq (tgt := 28) dX1_isBefore_8 (by decide) (by unfold inR; omega) (by unfold inR; omega) (fun b8 => ?_) (fun b8 => ?_)
  · skip
    refine go_iconst dX1_isBefore_28 ?_
    refine go_ist2 dX1_isBefore_29 (Nat.le_of_ble_eq_true rfl) rfl ?_
    exact loop (xs.length + 1) 0 (by omega) (by omega) (by omega) (by omega) (fun j hj => absurd hj (by omega))
  · skip
    refine go_aload_n dX1_isBefore_11 rfl ?_
    refine go_geti fl_X1_21 dX1_isBefore_12 (by assumption) rfl ?_
    refine go_aload_n dX1_isBefore_15 rfl ?_
    refine go_geti fl_X1_21 dX1_isBefore_16 (by assumption) rfl ?_
    refine go_icmp_ge (tgt := 26) dX1_isBefore_19 (by decide) (by unfold inR; omega) (by unfold inR; omega) (fun b19 => ?_) (fun b19 => ?_)
    · skip
      refine go_iconst dX1_isBefore_26 ?_
      refine go_retZ dX1_isBefore_27 rfl (by omega) ?_
      first | exact ⟨Or.inl ⟨rfl, Or.inl (by omega)⟩, rfl⟩ | exact ⟨Or.inr ⟨rfl, fun hb => by rcases hb with hb | hb <;> omega⟩, rfl⟩
    · skip
      refine go_iconst dX1_isBefore_22 ?_
      refine go_goto (tgt := 27) dX1_isBefore_23 (by decide) ?_
      refine go_retZ dX1_isBefore_27 rfl (by omega) ?_
      first | exact ⟨Or.inl ⟨rfl, Or.inl (by omega)⟩, rfl⟩ | exact ⟨Or.inr ⟨rfl, fun hb => by rcases hb with hb | hb <;> omega⟩, rfl⟩
