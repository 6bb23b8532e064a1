/-! ===== the reference: turn, text ===== -/
theorem mt_dec_st (S : List (List Int)) (f : Nat) (t : List Int) (p : Int) : mt_dec S (f + 1) t p = if t = [] then ([], p) else if mt_long S t = -1 then ([], p) else
      ((mt_long S t) :: (mt_dec S f (t.drop (S.getD (mt_long S t).toNat []).length) (p + (S.getD (mt_long S t).toNat []).length)).1,
       (mt_dec S f (t.drop (S.getD (mt_long S t).toNat []).length) (p + (S.getD (mt_long S t).toNat []).length)).2) := rfl
theorem mt_dec_nil (S : List (List Int)) (f : Nat) (p : Int) : mt_dec S f [] p = ([], p) := by cases f <;> rfl
theorem ev_X11_turnRow {σ : am_St} {L R : List (List Int)} {m : Nat} {xs : List Int} (h : tbM σ L R m) (p1 : σ.1 0 9 = (xs.length : Int)) (p2 : arA σ 6 xs) (p3 : okl xs) (p4 : xs.length ≤ 12) : am_Ev SH mX11_turnRow 1 [.ref 0] σ (am_rI (fun x σ2 => x = (if (mt_dec L xs.length xs 0).2 < xs.length then (mt_dec L xs.length xs 0).2 else -1) ∧ (σ2.1 0 19 = ((mt_dec L xs.length xs 0).1.length : Int) ∧ arA σ2 11 (mt_dec L xs.length xs 0).1) ∧ fr [19] [11] σ σ2)) := by
  generalize hT : mt_dec L xs.length xs 0 = T
  have hlr := h.2.2.2.2.1
  have h8 := h.2.2.2.2.2.1
  have loop : ∀ (m2 : Nat) (i fu : Nat) (rows : List Int) (o : Option Value) (σ1 : am_St), am_nl o = true → xs.length - i < m2 → i ≤ xs.length → xs.length - i ≤ fu → rows.length ≤ i → fr [19] [11] σ σ1 → σ1.1 0 19 = (rows.length : Int) → arA σ1 11 rows → rows ++ (mt_dec L fu (xs.drop i) i).1 = T.1 → (mt_dec L fu (xs.drop i) i).2 = T.2 → am_Go SH mX11_turnRow 1 (am_rI (fun x σ2 => x = (if T.2 < xs.length then T.2 else -1) ∧ (σ2.1 0 19 = (T.1.length : Int) ∧ arA σ2 11 T.1) ∧ fr [19] [11] σ σ2)) 7 [some (.ref 0), some (.int (iZ (i : Int))), o] [] σ1 := by
    intro m2
    induction m2 with
    | zero => intro i fu rows o σ1 _ hm; exact absurd hm (by omega)
    | succ m2 ih =>
      intro i fu rows o σ1 hno hm hi hfu hrl ho hr1 hr2 he1 he2
      have t1 := h.fr ho (by decide) (by decide)
      have q1 : σ1.1 0 9 = (xs.length : Int) := by rw [ho.f 9 (by decide)]; exact p1
      have q2 := p2.fr ho (by decide)
      have ll := ev_X11_longestLeft t1 q1 q2 p3 (by omega) hi
      have hbd := mt_long_bd L (xs.drop i)
      refine go_iload_n dX11_turnRow_7 rfl ?_
      refine go_aload_n dX11_turnRow_8 rfl ?_
      refine go_geti fl_X11_75 dX11_turnRow_9 sh_0 rfl ?_
      first | (rw [q1]) | (rw [hr1]) | skip
      refine go_icmp_ge (tgt := 60) dX11_turnRow_12 (by decide) (by unfold inR; omega) (by unfold inR; omega) (fun b12 => ?_) (fun b12 => ?_)
      · skip
        have hie : i = xs.length := by omega
        subst hie
        rw [List.drop_length, mt_dec_nil] at he1 he2
        simp only [List.append_nil] at he1 he2
        refine go_iconst dX11_turnRow_60 ?_
        refine go_retI dX11_turnRow_61 rfl ?_
        refine ⟨?_, ⟨by rw [← he1]; exact hr1, by rw [← he1]; exact hr2⟩, ho⟩
        rw [← he2, if_neg (by omega)]
      · skip
        have hlt : i < xs.length := by omega
        obtain ⟨f2, rfl⟩ : ∃ f2, fu = f2 + 1 := ⟨fu - 1, by omega⟩
        have hne : xs.drop i ≠ [] := fun z => by have := congrArg List.length z; rw [List.length_drop] at this; simp at this; omega
        rw [mt_dec_st, if_neg hne] at he1 he2
        refine go_aload_n dX11_turnRow_15 rfl ?_
        refine go_iload_n dX11_turnRow_16 rfl ?_
        refine go_cvP1 (M2 := mX11_longestLeft) dX11_turnRow_17 ml_X11_127 mv_X11_longestLeft sh_0 rfl rfl (Nat.le_of_ble_eq_true rfl) (by decide) (ll) ?_
        refine go_ist2 dX11_turnRow_20 (Nat.le_of_ble_eq_true rfl) rfl ?_
        refine go_iload_n dX11_turnRow_21 rfl ?_
        refine go_iconst dX11_turnRow_22 ?_
        refine go_icmp_ne (tgt := 28) dX11_turnRow_23 (by decide) (by unfold inR; omega) (by unfold inR; omega) (fun b23 => ?_) (fun b23 => ?_)
        · skip
          rw [if_neg b23] at he1 he2
          have hfit := mt_long_fit L (xs.drop i) b23
          have hpre := (mt_long_pre L (xs.drop i) b23).2
          rw [List.length_drop] at hfit
          have hb2 := hbd.resolve_left b23
          obtain ⟨r, hr⟩ : ∃ r : Nat, mt_long L (xs.drop i) = (r : Int) := ⟨(mt_long L (xs.drop i)).toNat, by omega⟩
          rw [hr] at he1 he2 hfit hpre hb2 ⊢
          rw [Int.toNat_natCast] at he1 he2 hfit hpre
          refine go_aload_n dX11_turnRow_28 rfl ?_
          refine go_getr fl_X11_40 dX11_turnRow_29 sh_0 rfl ?_
          refine go_aload_n dX11_turnRow_32 rfl ?_
          refine go_geti fl_X11_124 dX11_turnRow_33 sh_0 rfl ?_
          first | (rw [q1]) | (rw [hr1]) | skip
          refine go_iload_n dX11_turnRow_36 rfl ?_
          refine go_iastore dX11_turnRow_37 (by first | assumption | rfl) (by first | assumption | exact Nat.le_of_ble_eq_true rfl) (by omega) (by omega) ?_
          refine go_aload_n dX11_turnRow_38 rfl ?_
          refine go_dup dX11_turnRow_39 rfl ?_
          refine go_geti fl_X11_124 dX11_turnRow_40 sh_0 rfl ?_
          first | (rw [q1]) | (rw [hr1]) | skip
          rw [show (am_sa σ1 11 (rows.length : Int) (r : Int)).1 0 19 = (rows.length : Int) from hr1]
          refine go_iconst dX11_turnRow_43 ?_
          refine go_iadd dX11_turnRow_44 ?_
          refine go_puti fl_X11_124 dX11_turnRow_45 sh_0 rfl am_fit_int ?_
          refine go_iload_n dX11_turnRow_48 rfl ?_
          refine go_aload_n dX11_turnRow_49 rfl ?_
          refine go_getr fl_X11_7 dX11_turnRow_50 sh_0 rfl ?_
          refine go_iload_n dX11_turnRow_53 rfl ?_
          refine go_iaload dX11_turnRow_54 (by first | assumption | rfl) (by first | assumption | exact Nat.le_of_ble_eq_true rfl) (by omega) (by omega) ?_
          first | (rw [q1]) | (rw [hr1]) | skip
          rw [show (am_si (am_sa σ1 11 (rows.length : Int) (r : Int)) 0 19 ((rows.length : Int) + 1)).2.2 1 (r : Int) = ((L.getD r []).length : Int) from (t1.2.2.1 r (by omega)).1]
          refine go_iadd dX11_turnRow_55 ?_
          refine go_ist1 dX11_turnRow_56 (Nat.le_of_ble_eq_true rfl) rfl ?_
          refine go_goto (tgt := 7) dX11_turnRow_57 (by decide) ?_
          refine ih (i + (L.getD r []).length) f2 (rows ++ [(r : Int)]) _ _ rfl (by omega) (by omega) (by omega) (by rw [List.length_append, List.length_singleton]; omega) ((ho.tr (fr_sa (by decide))).tr (fr_si (by decide))) (by simp [am_si]) (arA_snoc hr2) ?_ ?_
          · rw [← he1, List.append_assoc, List.drop_drop]; push_cast; rfl
          · rw [← he2, List.drop_drop]; push_cast; rfl
        · skip
          rw [if_pos b23] at he1 he2
          simp only [List.append_nil] at he1 he2
          refine go_iload_n dX11_turnRow_26 rfl ?_
          refine go_retI dX11_turnRow_27 rfl ?_
          refine ⟨?_, ⟨by rw [← he1]; exact hr1, by rw [← he1]; exact hr2⟩, ho⟩
          rw [← he2, if_pos (by omega)]
  refine am_ev (by decide) [some (.ref 0), none, none] rfl (Nat.le_of_ble_eq_true rfl) ?_
  refine go_aload_n dX11_turnRow_0 rfl ?_
  refine go_iconst dX11_turnRow_1 ?_
  refine go_puti fl_X11_124 dX11_turnRow_2 sh_0 rfl am_fit_int ?_
  refine go_iconst dX11_turnRow_5 ?_
  refine go_ist1 dX11_turnRow_6 (Nat.le_of_ble_eq_true rfl) rfl ?_
  exact loop (xs.length + 1) 0 xs.length [] none _ rfl (by omega) (by omega) (by omega) (by simp) (fr_si (by decide)) (by simp [am_si]) (fun j hj => absurd hj (by simp)) (by simp only [List.nil_append, List.drop_zero]; exact congrArg Prod.fst hT) (by simp only [List.drop_zero]; exact congrArg Prod.snd hT)
theorem ev_X11_isSmallPage {σ : am_St} {xs : List Int} (p1 : σ.1 0 9 = (xs.length : Int)) (p2 : arA σ 6 xs) (p3 : okl xs) (p4 : xs.length ≤ 56) : am_Ev SH mX11_isSmallPage 2 [.ref 0] σ (am_rI (fun x σ2 => x = (if xs.length ≤ 12 ∧ xs.all isSm = true then 1 else 0) ∧ σ2 = σ)) := by
  generalize hT : (if xs.length ≤ 12 ∧ xs.all isSm = true then (1 : Int) else 0) = T
  have loop : ∀ (m2 : Nat) (i : Nat) (y : Int), y = (if xs.length ≤ 12 ∧ (xs.take i).all isSm = true then 1 else 0) → xs.length - i < m2 → i ≤ xs.length → am_Go SH mX11_isSmallPage 2 (am_rI (fun x σ2 => x = T ∧ σ2 = σ)) 17 [some (.ref 0), some (.int (iZ y)), some (.int (iZ (i : Int)))] [] σ := by
    intro m2
    induction m2 with
    | zero => intro i y _ hm; exact absurd hm (by omega)
    | succ m2 ih =>
      intro i y hy hm hi
      have hy01 : y = 0 ∨ y = 1 := by rw [hy]; split <;> simp
      have hcR : inR (ln_at xs (i : Int)) := ln_at_R (okl_R p3)
      refine go_iload_n dX11_isSmallPage_17 rfl ?_
      refine go_aload_n dX11_isSmallPage_18 rfl ?_
      refine go_geti fl_X11_75 dX11_isSmallPage_19 sh_0 rfl ?_
      first | (rw [p1]) | (rw [p2 i (by omega)]) | skip
      refine go_icmp_ge (tgt := 53) dX11_isSmallPage_22 (by decide) (by unfold inR; omega) (by unfold inR; omega) (fun b22 => ?_) (fun b22 => ?_)
      · skip
        refine go_iload_n dX11_isSmallPage_53 rfl ?_
        refine go_retZ dX11_isSmallPage_54 rfl hy01 ?_
        refine ⟨?_, rfl⟩
        rw [show i = xs.length by omega, List.take_length] at hy
        rw [hy, hT]
      · skip
        refine go_iload_n dX11_isSmallPage_25 rfl ?_
        refine go_if_eq (tgt := 45) dX11_isSmallPage_26 (by decide) (by unfold inR; omega) (fun b26 => ?_) (fun b26 => ?_)
        · skip
          refine go_iconst dX11_isSmallPage_45 ?_
          refine go_ist1 dX11_isSmallPage_46 (Nat.le_of_ble_eq_true rfl) rfl ?_
          refine go_inc2 dX11_isSmallPage_47 (Nat.le_of_ble_eq_true rfl) rfl ?_
          refine go_goto (tgt := 17) dX11_isSmallPage_50 (by decide) ?_
          refine ih (i + 1) _ ?_ (by omega) (by omega)
          rw [take_snoc (by omega), List.all_append]
          have ea : List.all [ln_at xs (i : Int)] isSm = decide (97 ≤ ln_at xs (i : Int) ∧ ln_at xs (i : Int) ≤ 122) := by simp [isSm]
          rw [ea]
          by_cases q1 : xs.length ≤ 12 ∧ (xs.take i).all isSm = true
          · rw [if_pos q1] at hy
            by_cases q2 : 97 ≤ ln_at xs (i : Int) ∧ ln_at xs (i : Int) ≤ 122
            · rw [if_pos ⟨q1.1, by rw [q1.2]; simpa using q2⟩]
              all_goals first | rfl | (exfalso; omega) | (rw [if_pos q2] at b38; exact absurd b38 (by decide))
            · rw [if_neg (fun z => q2 (by have := z.2; rw [q1.2] at this; simpa using this))]
              all_goals first | rfl | (exfalso; omega) | (rw [if_neg q2] at b38; exact absurd rfl b38)
          · rw [if_neg q1] at hy
            rw [if_neg (fun z => q1 ⟨z.1, by have := z.2; rw [Bool.and_eq_true] at this; exact this.1⟩)]
            all_goals first | rfl | (exfalso; omega)
        · skip
          refine go_aload_n dX11_isSmallPage_29 rfl ?_
          refine go_getr fl_X11_25 dX11_isSmallPage_30 sh_0 rfl ?_
          refine go_iload_n dX11_isSmallPage_33 rfl ?_
          refine go_iaload dX11_isSmallPage_34 (by first | assumption | rfl) (by first | assumption | exact Nat.le_of_ble_eq_true rfl) (by omega) (by omega) ?_
          first | (rw [p1]) | (rw [p2 i (by omega)]) | skip
          refine go_csP1 (M2 := mX11_isSmall) dX11_isSmallPage_35 ml_X11_89 ms_X11_isSmall (Nat.le_of_ble_eq_true rfl) (by decide) (ev_X11_isSmall hcR) ?_
          refine go_if_eq (tgt := 45) dX11_isSmallPage_38 (by decide) (by unfold inR; split <;> omega) (fun b38 => ?_) (fun b38 => ?_)
          · skip
            refine go_iconst dX11_isSmallPage_45 ?_
            refine go_ist1 dX11_isSmallPage_46 (Nat.le_of_ble_eq_true rfl) rfl ?_
            refine go_inc2 dX11_isSmallPage_47 (Nat.le_of_ble_eq_true rfl) rfl ?_
            refine go_goto (tgt := 17) dX11_isSmallPage_50 (by decide) ?_
            refine ih (i + 1) _ ?_ (by omega) (by omega)
            rw [take_snoc (by omega), List.all_append]
            have ea : List.all [ln_at xs (i : Int)] isSm = decide (97 ≤ ln_at xs (i : Int) ∧ ln_at xs (i : Int) ≤ 122) := by simp [isSm]
            rw [ea]
            by_cases q1 : xs.length ≤ 12 ∧ (xs.take i).all isSm = true
            · rw [if_pos q1] at hy
              by_cases q2 : 97 ≤ ln_at xs (i : Int) ∧ ln_at xs (i : Int) ≤ 122
              · rw [if_pos ⟨q1.1, by rw [q1.2]; simpa using q2⟩]
                all_goals first | rfl | (exfalso; omega) | (rw [if_pos q2] at b38; exact absurd b38 (by decide))
              · rw [if_neg (fun z => q2 (by have := z.2; rw [q1.2] at this; simpa using this))]
                all_goals first | rfl | (exfalso; omega) | (rw [if_neg q2] at b38; exact absurd rfl b38)
            · rw [if_neg q1] at hy
              rw [if_neg (fun z => q1 ⟨z.1, by have := z.2; rw [Bool.and_eq_true] at this; exact this.1⟩)]
              all_goals first | rfl | (exfalso; omega)
          · skip
            refine go_iconst dX11_isSmallPage_41 ?_
            refine go_goto (tgt := 46) dX11_isSmallPage_42 (by decide) ?_
            refine go_ist1 dX11_isSmallPage_46 (Nat.le_of_ble_eq_true rfl) rfl ?_
            refine go_inc2 dX11_isSmallPage_47 (Nat.le_of_ble_eq_true rfl) rfl ?_
            refine go_goto (tgt := 17) dX11_isSmallPage_50 (by decide) ?_
            refine ih (i + 1) _ ?_ (by omega) (by omega)
            rw [take_snoc (by omega), List.all_append]
            have ea : List.all [ln_at xs (i : Int)] isSm = decide (97 ≤ ln_at xs (i : Int) ∧ ln_at xs (i : Int) ≤ 122) := by simp [isSm]
            rw [ea]
            by_cases q1 : xs.length ≤ 12 ∧ (xs.take i).all isSm = true
            · rw [if_pos q1] at hy
              by_cases q2 : 97 ≤ ln_at xs (i : Int) ∧ ln_at xs (i : Int) ≤ 122
              · rw [if_pos ⟨q1.1, by rw [q1.2]; simpa using q2⟩]
                all_goals first | rfl | (exfalso; omega) | (rw [if_pos q2] at b38; exact absurd b38 (by decide))
              · rw [if_neg (fun z => q2 (by have := z.2; rw [q1.2] at this; simpa using this))]
                all_goals first | rfl | (exfalso; omega) | (rw [if_neg q2] at b38; exact absurd rfl b38)
            · rw [if_neg q1] at hy
              rw [if_neg (fun z => q1 ⟨z.1, by have := z.2; rw [Bool.and_eq_true] at this; exact this.1⟩)]
              all_goals first | rfl | (exfalso; omega)
  refine am_ev (by decide) [some (.ref 0), none, none] rfl (Nat.le_of_ble_eq_true rfl) ?_
  refine go_aload_n dX11_isSmallPage_0 rfl ?_
  refine go_geti fl_X11_75 dX11_isSmallPage_1 sh_0 rfl ?_
  first | (rw [p1]) | skip
  refine go_bipush dX11_isSmallPage_4 rfl ?_
  refine go_icmp_gt (tgt := 13) dX11_isSmallPage_6 (by decide) (by unfold inR; omega) (by unfold inR; omega) (fun b6 => ?_) (fun b6 => ?_)
  · skip
    refine go_iconst dX11_isSmallPage_13 ?_
    refine go_ist1 dX11_isSmallPage_14 (Nat.le_of_ble_eq_true rfl) rfl ?_
    refine go_iconst dX11_isSmallPage_15 ?_
    refine go_ist2 dX11_isSmallPage_16 (Nat.le_of_ble_eq_true rfl) rfl ?_
    refine loop (xs.length + 1) 0 _ ?_ (by omega) (by omega)
    rw [List.take_zero]
    first | rw [if_pos ⟨by omega, rfl⟩] | rw [if_neg (fun z => by have := z.1; omega)]
  · skip
    refine go_iconst dX11_isSmallPage_9 ?_
    refine go_goto (tgt := 14) dX11_isSmallPage_10 (by decide) ?_
    refine go_ist1 dX11_isSmallPage_14 (Nat.le_of_ble_eq_true rfl) rfl ?_
    refine go_iconst dX11_isSmallPage_15 ?_
    refine go_ist2 dX11_isSmallPage_16 (Nat.le_of_ble_eq_true rfl) rfl ?_
    refine loop (xs.length + 1) 0 _ ?_ (by omega) (by omega)
    rw [List.take_zero]
    first | rw [if_pos ⟨by omega, rfl⟩] | rw [if_neg (fun z => by have := z.1; omega)]
