/-! ===== the reference: signs, longest lefts ===== -/
theorem getD_in {W : List (List Int)} {i : Nat} (h : i < W.length) : W.getD i [] = W[i] := by simp [List.getD, h]
theorem sg_eq {R : List (List Int)} (m : Nat) {r : Nat} (h : r < R.length) : (mt_sg R m).getD r [] = if m / 2 ^ r % 2 = 1 then R.getD r [] ++ [39] else R.getD r [] := by
  rw [List.getD, mt_sg_get m h, getD_in h]; rfl
theorem sg_len {R : List (List Int)} (m : Nat) {r : Nat} (h : r < R.length) : ((mt_sg R m).getD r []).length = (R.getD r []).length + m / 2 ^ r % 2 := by
  rw [sg_eq m h]
  split
  · rw [List.length_append, List.length_singleton]; omega
  · omega
theorem sg_at {R : List (List Int)} (m : Nat) {r p : Nat} (h : r < R.length) (hp : p < ((mt_sg R m).getD r []).length) : ln_at ((mt_sg R m).getD r []) (p : Int) = if p < (R.getD r []).length then ln_at (R.getD r []) (p : Int) else 39 := by
  rw [sg_len m h] at hp
  rw [sg_eq m h]
  by_cases q : p < (R.getD r []).length
  · rw [if_pos q]
    split
    · exact ln_at_app q
    · rfl
  · rw [if_neg q]
    have e : m / 2 ^ r % 2 = 1 := by omega
    rw [if_pos e, show p = (R.getD r []).length by omega]
    exact ln_at_get (by simp)
theorem tbM.sg {σ : am_St} {L R : List (List Int)} {m : Nat} (h : tbM σ L R m) (r : Nat) : okl ((mt_sg R m).getD r []) ∧ ((mt_sg R m).getD r []).length ≤ 4 := okw_get (okw_sg h.2.2.2.2.2.2.2.2 m).1 r
theorem tbM.sg1 {σ : am_St} {L R : List (List Int)} {m : Nat} (h : tbM σ L R m) {r : Nat} (hr : r < R.length) : 1 ≤ ((mt_sg R m).getD r []).length := by
  have h2 := h.2.2.2.2.2.2.2.2
  rw [sg_len m hr, getD_in hr]
  have := (h2 _ (List.getElem_mem hr)).2.1
  omega
theorem ev_X11_signLength {σ : am_St} {L R : List (List Int)} {m r : Nat} (h : tbM σ L R m) (hr : r < R.length) : am_Ev SH mX11_signLength 0 [.ref 0, .int (iZ (r : Int))] σ (am_rI (fun x σ2 => x = (((mt_sg R m).getD r []).length : Int) ∧ σ2 = σ)) := by
  have h8 := h.2.2.2.2.2.1
  have e1 := (h.2.2.2.1 r hr).1
  refine am_ev (by decide) [some (.ref 0), some (.int (iZ ((r : Int))))] rfl (Nat.le_of_ble_eq_true rfl) ?_
  refine go_aload_n dX11_signLength_0 rfl ?_
  refine go_getr fl_X11_13 dX11_signLength_1 sh_0 rfl ?_
  refine go_iload_n dX11_signLength_4 rfl ?_
  refine go_iaload dX11_signLength_5 (by first | assumption | rfl) (by first | assumption | exact Nat.le_of_ble_eq_true rfl) (by omega) (by omega) ?_
  first | (rw [e1]) | (rw [h.2.1]) | skip
  refine go_aload_n dX11_signLength_6 rfl ?_
  refine go_geti fl_X11_115 dX11_signLength_7 sh_0 rfl ?_
  first | (rw [e1]) | (rw [h.2.1]) | skip
  refine go_iload_n dX11_signLength_10 rfl ?_
  refine go_ishr dX11_signLength_11 ?_
  refine go_iconst dX11_signLength_12 ?_
  refine go_iand dX11_signLength_13 ?_
  rw [mt_bit h.2.2.2.2.mk (by omega)]
  refine go_iadd dX11_signLength_14 ?_
  refine go_retI dX11_signLength_15 rfl ?_
  refine ⟨?_, rfl⟩
  rw [sg_len m hr]; omega
theorem ev_X11_signAt {σ : am_St} {L R : List (List Int)} {m r p : Nat} (h : tbM σ L R m) (hr : r < R.length) (hp : p < ((mt_sg R m).getD r []).length) : am_Ev SH mX11_signAt 0 [.ref 0, .int (iZ (r : Int)), .int (iZ (p : Int))] σ (am_rI (fun x σ2 => x = ln_at ((mt_sg R m).getD r []) (p : Int) ∧ σ2 = σ)) := by
  have h8 := h.2.2.2.2.2.1
  have h4 := (h.sg r).2
  have l3 := (okr_get h.2.2.2.2.2.2.2.2 r).2
  have e1 := (h.2.2.2.1 r hr).1
  have e2 := (h.2.2.2.1 r hr).2 p
  refine am_ev (by decide) [some (.ref 0), some (.int (iZ ((r : Int)))), some (.int (iZ ((p : Int))))] rfl (Nat.le_of_ble_eq_true rfl) ?_
  refine go_iload_n dX11_signAt_0 rfl ?_
  refine go_aload_n dX11_signAt_1 rfl ?_
  refine go_getr fl_X11_13 dX11_signAt_2 sh_0 rfl ?_
  refine go_iload_n dX11_signAt_5 rfl ?_
  refine go_iaload dX11_signAt_6 (by first | assumption | rfl) (by first | assumption | exact Nat.le_of_ble_eq_true rfl) (by omega) (by omega) ?_
  first | (rw [e1]) | (rw [e2 (by omega)]) | skip
  refine go_icmp_ge (tgt := 23) dX11_signAt_7 (by decide) (by unfold inR; omega) (by unfold inR; omega) (fun b7 => ?_) (fun b7 => ?_)
  · skip
    refine go_bipush dX11_signAt_23 rfl ?_
    refine go_retI dX11_signAt_25 rfl ?_
    refine ⟨?_, rfl⟩
    rw [sg_at m hr hp]
    first | rw [if_pos (by omega)] | rw [if_neg (by omega)]
  · skip
    refine go_aload_n dX11_signAt_10 rfl ?_
    refine go_getr fl_X11_19 dX11_signAt_11 sh_0 rfl ?_
    refine go_iconst dX11_signAt_14 ?_
    refine go_iload_n dX11_signAt_15 rfl ?_
    refine go_imul dX11_signAt_16 ?_
    refine go_iload_n dX11_signAt_17 rfl ?_
    refine go_iadd dX11_signAt_18 ?_
    refine go_iaload dX11_signAt_19 (by first | assumption | rfl) (by first | assumption | exact Nat.le_of_ble_eq_true rfl) (by omega) (by omega) ?_
    first | (rw [e1]) | (rw [e2 (by omega)]) | skip
    refine go_goto (tgt := 25) dX11_signAt_20 (by decide) ?_
    refine go_retI dX11_signAt_25 rfl ?_
    refine ⟨?_, rfl⟩
    rw [sg_at m hr hp]
    first | rw [if_pos (by omega)] | rw [if_neg (by omega)]
theorem ev_X11_begins {σ : am_St} {L R : List (List Int)} {m a b : Nat} (h : tbM σ L R m) (ha : a < R.length) (hb : b < R.length) : am_Ev SH mX11_begins 1 [.ref 0, .int (iZ (a : Int)), .int (iZ (b : Int))] σ (am_rI (fun x σ2 => x = (if (mt_sg R m).getD a [] <+: (mt_sg R m).getD b [] then 1 else 0) ∧ σ2 = σ)) := by
  have h4a := (h.sg a).2
  have h4b := (h.sg b).2
  have ra := okl_R (h.sg a).1
  have rb := okl_R (h.sg b).1
  have sla := ev_X11_signLength h ha
  have slb := ev_X11_signLength h hb
  have saa := fun p => ev_X11_signAt (p := p) h ha
  have sab := fun p => ev_X11_signAt (p := p) h hb
  generalize hA : (mt_sg R m).getD a [] = A at *
  generalize hB : (mt_sg R m).getD b [] = B at *
  have loop : ∀ (m2 : Nat) (i : Nat) (y : Int), y = pb A B i → A.length - i < m2 → i ≤ A.length → am_Go SH mX11_begins 1 (am_rI (fun x σ2 => x = (if A <+: B then 1 else 0) ∧ σ2 = σ)) 22 [some (.ref 0), some (.int (iZ (a : Int))), some (.int (iZ (b : Int))), some (.int (iZ y)), some (.int (iZ (i : Int)))] [] σ := by
    intro m2
    induction m2 with
    | zero => intro i y _ hm; exact absurd hm (by omega)
    | succ m2 ih =>
      intro i y hy hm hi
      have hy01 : y = 0 ∨ y = 1 := by rw [hy]; exact pb_01 _ _ _
      refine go_iload dX11_begins_22 rfl ?_
      refine go_aload_n dX11_begins_24 rfl ?_
      refine go_iload_n dX11_begins_25 rfl ?_
      refine go_cvP1 (M2 := mX11_signLength) dX11_begins_26 ml_X11_137 mv_X11_signLength sh_0 rfl rfl (Nat.le_of_ble_eq_true rfl) (by decide) (sla) ?_
      refine go_icmp_ge (tgt := 65) dX11_begins_29 (by decide) (by unfold inR; omega) (by unfold inR; omega) (fun b29 => ?_) (fun b29 => ?_)
      · skip
        refine go_iload_n dX11_begins_65 rfl ?_
        refine go_retZ dX11_begins_66 rfl hy01 ?_
        exact ⟨by rw [hy]; exact pb_end (by first | exact Or.inl (by omega) | exact Or.inr (by rw [← hy]; exact b33)), rfl⟩
      · skip
        refine go_iload_n dX11_begins_32 rfl ?_
        refine go_if_eq (tgt := 65) dX11_begins_33 (by decide) (by unfold inR; omega) (fun b33 => ?_) (fun b33 => ?_)
        · skip
          refine go_iload_n dX11_begins_65 rfl ?_
          refine go_retZ dX11_begins_66 rfl hy01 ?_
          exact ⟨by rw [hy]; exact pb_end (by first | exact Or.inl (by omega) | exact Or.inr (by rw [← hy]; exact b33)), rfl⟩
        · skip
          have hne : pb A B i ≠ 0 := by rw [← hy]; exact b33
          have hl := pb_len hne
          refine go_aload_n dX11_begins_36 rfl ?_
          refine go_iload_n dX11_begins_37 rfl ?_
          refine go_iload dX11_begins_38 rfl ?_
          refine go_cvP2 (M2 := mX11_signAt) dX11_begins_40 ml_X11_140 mv_X11_signAt sh_0 rfl rfl (Nat.le_of_ble_eq_true rfl) (by decide) (saa i (by omega)) ?_
          refine go_aload_n dX11_begins_43 rfl ?_
          refine go_iload_n dX11_begins_44 rfl ?_
          refine go_iload dX11_begins_45 rfl ?_
          refine go_cvP2 (M2 := mX11_signAt) dX11_begins_47 ml_X11_140 mv_X11_signAt sh_0 rfl rfl (Nat.le_of_ble_eq_true rfl) (by decide) (sab i (by omega)) ?_
          refine go_icmp_ne (tgt := 57) dX11_begins_50 (by decide) (ln_at_R ra) (ln_at_R rb) (fun b50 => ?_) (fun b50 => ?_)
          · skip
            refine go_iconst dX11_begins_57 ?_
            refine go_ist3 dX11_begins_58 (Nat.le_of_ble_eq_true rfl) rfl ?_
            refine go_inc4 dX11_begins_59 (Nat.le_of_ble_eq_true rfl) rfl ?_
            refine go_goto (tgt := 22) dX11_begins_62 (by decide) ?_
            refine ih (i + 1) _ ?_ (by omega) (by omega)
            rw [pb_step (by omega) hne]
            first | rw [if_pos b50] | rw [if_neg b50]
          · skip
            refine go_iconst dX11_begins_53 ?_
            refine go_goto (tgt := 58) dX11_begins_54 (by decide) ?_
            refine go_ist3 dX11_begins_58 (Nat.le_of_ble_eq_true rfl) rfl ?_
            refine go_inc4 dX11_begins_59 (Nat.le_of_ble_eq_true rfl) rfl ?_
            refine go_goto (tgt := 22) dX11_begins_62 (by decide) ?_
            refine ih (i + 1) _ ?_ (by omega) (by omega)
            rw [pb_step (by omega) hne]
            first | rw [if_pos b50] | rw [if_neg b50]
  refine am_ev (by decide) [some (.ref 0), some (.int (iZ ((a : Int)))), some (.int (iZ ((b : Int)))), none, none] rfl (Nat.le_of_ble_eq_true rfl) ?_
  refine go_aload_n dX11_begins_0 rfl ?_
  refine go_iload_n dX11_begins_1 rfl ?_
  refine go_cvP1 (M2 := mX11_signLength) dX11_begins_2 ml_X11_137 mv_X11_signLength sh_0 rfl rfl (Nat.le_of_ble_eq_true rfl) (by decide) (sla) ?_
  refine go_aload_n dX11_begins_5 rfl ?_
  refine go_iload_n dX11_begins_6 rfl ?_
  refine go_cvP1 (M2 := mX11_signLength) dX11_begins_7 ml_X11_137 mv_X11_signLength sh_0 rfl rfl (Nat.le_of_ble_eq_true rfl) (by decide) (slb) ?_
  refine go_icmp_gt (tgt := 17) dX11_begins_10 (by decide) (by unfold inR; omega) (by unfold inR; omega) (fun b10 => ?_) (fun b10 => ?_)
  · skip
    refine go_iconst dX11_begins_17 ?_
    refine go_ist3 dX11_begins_18 (Nat.le_of_ble_eq_true rfl) rfl ?_
    refine go_iconst dX11_begins_19 ?_
    refine go_ist4 dX11_begins_20 (Nat.le_of_ble_eq_true rfl) rfl ?_
    refine loop (A.length + 1) 0 _ ?_ (by omega) (by omega)
    rw [pb_0]
    first | rw [if_pos (by omega)] | rw [if_neg (by omega)]
  · skip
    refine go_iconst dX11_begins_13 ?_
    refine go_goto (tgt := 18) dX11_begins_14 (by decide) ?_
    refine go_ist3 dX11_begins_18 (Nat.le_of_ble_eq_true rfl) rfl ?_
    refine go_iconst dX11_begins_19 ?_
    refine go_ist4 dX11_begins_20 (Nat.le_of_ble_eq_true rfl) rfl ?_
    refine loop (A.length + 1) 0 _ ?_ (by omega) (by omega)
    rw [pb_0]
    first | rw [if_pos (by omega)] | rw [if_neg (by omega)]
theorem ev_X11_leftBegins {σ : am_St} {L R : List (List Int)} {m a b : Nat} (h : tbM σ L R m) (ha : a < R.length) (hb : b < R.length) : am_Ev SH mX11_leftBegins 0 [.ref 0, .int (iZ (a : Int)), .int (iZ (b : Int))] σ (am_rI (fun x σ2 => x = (if L.getD a [] <+: L.getD b [] then 1 else 0) ∧ σ2 = σ)) := by
  have hlr := h.2.2.2.2.1
  have h8 := h.2.2.2.2.2.1
  have ka := h.2.2.1 a (by omega)
  have kb := h.2.2.1 b (by omega)
  have l3a := okr_get h.2.2.2.2.2.2.2.1 a
  have l3b := okr_get h.2.2.2.2.2.2.2.1 b
  generalize hA : L.getD a [] = A at *
  generalize hB : L.getD b [] = B at *
  have ra := okl_R l3a.1
  have rb := okl_R l3b.1
  have loop : ∀ (m2 : Nat) (i : Nat) (y : Int), y = pb A B i → A.length - i < m2 → i ≤ A.length → am_Go SH mX11_leftBegins 0 (am_rI (fun x σ2 => x = (if A <+: B then 1 else 0) ∧ σ2 = σ)) 24 [some (.ref 0), some (.int (iZ (a : Int))), some (.int (iZ (b : Int))), some (.int (iZ y)), some (.int (iZ (i : Int)))] [] σ := by
    intro m2
    induction m2 with
    | zero => intro i y _ hm; exact absurd hm (by omega)
    | succ m2 ih =>
      intro i y hy hm hi
      have hy01 : y = 0 ∨ y = 1 := by rw [hy]; exact pb_01 _ _ _
      refine go_iload dX11_leftBegins_24 rfl ?_
      refine go_aload_n dX11_leftBegins_26 rfl ?_
      refine go_getr fl_X11_7 dX11_leftBegins_27 sh_0 rfl ?_
      refine go_iload_n dX11_leftBegins_30 rfl ?_
      refine go_iaload dX11_leftBegins_31 (by first | assumption | rfl) (by first | assumption | exact Nat.le_of_ble_eq_true rfl) (by omega) (by omega) ?_
      rw [ka.1]
      refine go_icmp_ge (tgt := 76) dX11_leftBegins_32 (by decide) (by unfold inR; omega) (by unfold inR; omega) (fun b32 => ?_) (fun b32 => ?_)
      · skip
        refine go_iload_n dX11_leftBegins_76 rfl ?_
        refine go_retZ dX11_leftBegins_77 rfl hy01 ?_
        exact ⟨by rw [hy]; exact pb_end (by first | exact Or.inl (by omega) | exact Or.inr (by rw [← hy]; exact b36)), rfl⟩
      · skip
        refine go_iload_n dX11_leftBegins_35 rfl ?_
        refine go_if_eq (tgt := 76) dX11_leftBegins_36 (by decide) (by unfold inR; omega) (fun b36 => ?_) (fun b36 => ?_)
        · skip
          refine go_iload_n dX11_leftBegins_76 rfl ?_
          refine go_retZ dX11_leftBegins_77 rfl hy01 ?_
          exact ⟨by rw [hy]; exact pb_end (by first | exact Or.inl (by omega) | exact Or.inr (by rw [← hy]; exact b36)), rfl⟩
        · skip
          have hne : pb A B i ≠ 0 := by rw [← hy]; exact b36
          have hl := pb_len hne
          refine go_aload_n dX11_leftBegins_39 rfl ?_
          refine go_getr fl_X11_16 dX11_leftBegins_40 sh_0 rfl ?_
          refine go_iconst dX11_leftBegins_43 ?_
          refine go_iload_n dX11_leftBegins_44 rfl ?_
          refine go_imul dX11_leftBegins_45 ?_
          refine go_iload dX11_leftBegins_46 rfl ?_
          refine go_iadd dX11_leftBegins_48 ?_
          refine go_iaload dX11_leftBegins_49 (by first | assumption | rfl) (by first | assumption | exact Nat.le_of_ble_eq_true rfl) (by omega) (by omega) ?_
          rw [ka.2 i (by omega)]
          refine go_aload_n dX11_leftBegins_50 rfl ?_
          refine go_getr fl_X11_16 dX11_leftBegins_51 sh_0 rfl ?_
          refine go_iconst dX11_leftBegins_54 ?_
          refine go_iload_n dX11_leftBegins_55 rfl ?_
          refine go_imul dX11_leftBegins_56 ?_
          refine go_iload dX11_leftBegins_57 rfl ?_
          refine go_iadd dX11_leftBegins_59 ?_
          refine go_iaload dX11_leftBegins_60 (by first | assumption | rfl) (by first | assumption | exact Nat.le_of_ble_eq_true rfl) (by omega) (by omega) ?_
          rw [kb.2 i (by omega)]
          refine go_icmp_ne (tgt := 68) dX11_leftBegins_61 (by decide) (ln_at_R ra) (ln_at_R rb) (fun b61 => ?_) (fun b61 => ?_)
          · skip
            refine go_iconst dX11_leftBegins_68 ?_
            refine go_ist3 dX11_leftBegins_69 (Nat.le_of_ble_eq_true rfl) rfl ?_
            refine go_inc4 dX11_leftBegins_70 (Nat.le_of_ble_eq_true rfl) rfl ?_
            refine go_goto (tgt := 24) dX11_leftBegins_73 (by decide) ?_
            refine ih (i + 1) _ ?_ (by omega) (by omega)
            rw [pb_step (by omega) hne]
            first | rw [if_pos b61] | rw [if_neg b61]
          · skip
            refine go_iconst dX11_leftBegins_64 ?_
            refine go_goto (tgt := 69) dX11_leftBegins_65 (by decide) ?_
            refine go_ist3 dX11_leftBegins_69 (Nat.le_of_ble_eq_true rfl) rfl ?_
            refine go_inc4 dX11_leftBegins_70 (Nat.le_of_ble_eq_true rfl) rfl ?_
            refine go_goto (tgt := 24) dX11_leftBegins_73 (by decide) ?_
            refine ih (i + 1) _ ?_ (by omega) (by omega)
            rw [pb_step (by omega) hne]
            first | rw [if_pos b61] | rw [if_neg b61]
  refine am_ev (by decide) [some (.ref 0), some (.int (iZ ((a : Int)))), some (.int (iZ ((b : Int)))), none, none] rfl (Nat.le_of_ble_eq_true rfl) ?_
  refine go_aload_n dX11_leftBegins_0 rfl ?_
  refine go_getr fl_X11_7 dX11_leftBegins_1 sh_0 rfl ?_
  refine go_iload_n dX11_leftBegins_4 rfl ?_
  refine go_iaload dX11_leftBegins_5 (by first | assumption | rfl) (by first | assumption | exact Nat.le_of_ble_eq_true rfl) (by omega) (by omega) ?_
  first | (rw [ka.1]) | (rw [kb.1]) | skip
  refine go_aload_n dX11_leftBegins_6 rfl ?_
  refine go_getr fl_X11_7 dX11_leftBegins_7 sh_0 rfl ?_
  refine go_iload_n dX11_leftBegins_10 rfl ?_
  refine go_iaload dX11_leftBegins_11 (by first | assumption | rfl) (by first | assumption | exact Nat.le_of_ble_eq_true rfl) (by omega) (by omega) ?_
  first | (rw [ka.1]) | (rw [kb.1]) | skip
  refine go_icmp_gt (tgt := 19) dX11_leftBegins_12 (by decide) (by unfold inR; omega) (by unfold inR; omega) (fun b12 => ?_) (fun b12 => ?_)
  · skip
    refine go_iconst dX11_leftBegins_19 ?_
    refine go_ist3 dX11_leftBegins_20 (Nat.le_of_ble_eq_true rfl) rfl ?_
    refine go_iconst dX11_leftBegins_21 ?_
    refine go_ist4 dX11_leftBegins_22 (Nat.le_of_ble_eq_true rfl) rfl ?_
    refine loop (A.length + 1) 0 _ ?_ (by omega) (by omega)
    rw [pb_0]
    first | rw [if_pos (by omega)] | rw [if_neg (by omega)]
  · skip
    refine go_iconst dX11_leftBegins_15 ?_
    refine go_goto (tgt := 20) dX11_leftBegins_16 (by decide) ?_
    refine go_ist3 dX11_leftBegins_20 (Nat.le_of_ble_eq_true rfl) rfl ?_
    refine go_iconst dX11_leftBegins_21 ?_
    refine go_ist4 dX11_leftBegins_22 (Nat.le_of_ble_eq_true rfl) rfl ?_
    refine loop (A.length + 1) 0 _ ?_ (by omega) (by omega)
    rw [pb_0]
    first | rw [if_pos (by omega)] | rw [if_neg (by omega)]
theorem ev_X11_isRule {σ : am_St} {L R : List (List Int)} {m : Nat} {r : Int} (h : tbM σ L R m) (hr : inR r) : am_Ev SH mX11_isRule 1 [.ref 0, .int (iZ r)] σ (am_rI (fun x σ2 => x = (if 0 ≤ r ∧ r < R.length then 1 else 0) ∧ σ2 = σ)) := by
  have h8 := h.2.2.2.2.2.1
  refine am_ev (by decide) [some (.ref 0), some (.int (iZ (r)))] rfl (Nat.le_of_ble_eq_true rfl) ?_
  refine go_iload_n dX11_isRule_0 rfl ?_
  refine go_iconst dX11_isRule_1 ?_
  refine go_aload_n dX11_isRule_2 rfl ?_
  refine go_geti fl_X11_109 dX11_isRule_3 sh_0 rfl ?_
  first | (rw [h.1]) | skip
  refine go_iconst dX11_isRule_6 ?_
  refine go_isub dX11_isRule_7 ?_
  refine go_csP3 (M2 := mX11_within) dX11_isRule_8 ml_X11_71 ms_X11_within (Nat.le_of_ble_eq_true rfl) (by decide) (ev_X11_within hr (by unfold inR; omega) (by unfold inR; omega)) ?_
  refine go_retZ dX11_isRule_11 rfl (by split <;> simp) ?_
  refine ⟨?_, rfl⟩
  split <;> split <;> first | rfl | omega
theorem ln_at_dr {xs : List Int} {f i : Nat} (h : f + i < xs.length) : ln_at (xs.drop f) (i : Int) = ln_at xs ((f : Int) + (i : Int)) := by
  rw [ln_at_get (x := xs[f + i]) (by rw [List.getElem?_drop]; exact List.getElem?_eq_getElem h)]
  have := ln_at_get (List.getElem?_eq_getElem h)
  rw [← this]
  push_cast
  rfl
theorem arA.dr {σ : am_St} {k f i : Nat} {xs : List Int} (h : arA σ k xs) (hl : f + i < xs.length) : σ.2.2 k ((f : Int) + (i : Int)) = ln_at (xs.drop f) (i : Int) := by
  rw [ln_at_dr hl]
  have := h (f + i) hl
  push_cast at this
  exact this
theorem ev_X11_longestLeft {σ : am_St} {L R : List (List Int)} {m f : Nat} {xs : List Int} (h : tbM σ L R m) (p1 : σ.1 0 9 = (xs.length : Int)) (p2 : arA σ 6 xs) (p3 : okl xs) (p4 : xs.length ≤ 56) (hf : f ≤ xs.length) : am_Ev SH mX11_longestLeft 0 [.ref 0, .int (iZ (f : Int))] σ (am_rI (fun x σ2 => x = mt_long L (xs.drop f) ∧ σ2 = σ)) := by
  have hlr := h.2.2.2.2.1
  have h8 := h.2.2.2.2.2.1
  have hr1 : ∀ i, i < L.length → 1 ≤ (L.getD i []).length := fun i hi => by rw [getD_in hi]; exact (h.2.2.2.2.2.2.2.1 _ (List.getElem_mem hi)).2.1
  have l3 := fun i => (okr_get h.2.2.2.2.2.2.2.1 i).2
  have hdl : (xs.drop f).length = xs.length - f := List.length_drop
  generalize hT : mt_long L (xs.drop f) = T
  generalize ht : xs.drop f = t at *
  have hRt : ∀ x ∈ t, inR x := by rw [← ht]; exact okl_R (p3.drop f)
  have loop : ∀ (m2 : Nat) (k : Nat) (b : Int) (Lb : Nat) (o4 o5 : Option Value), am_nl o4 = true → am_nl o5 = true → ((b = -1 ∧ Lb = 0) ∨ ∃ j : Nat, b = j ∧ j < L.length ∧ Lb = (L.getD j []).length) → mt_lg t (L.drop k) k b Lb = T → L.length - k < m2 → k ≤ L.length → am_Go SH mX11_longestLeft 0 (am_rI (fun x σ2 => x = T ∧ σ2 = σ)) 4 [some (.ref 0), some (.int (iZ (f : Int))), some (.int (iZ b)), some (.int (iZ (k : Int))), o4, o5] [] σ := by
    intro m2
    induction m2 with
    | zero => intro k b Lb o4 o5 _ _ _ _ hm; exact absurd hm (by omega)
    | succ m2 ih =>
      intro k b Lb o4 o5 n4 n5 hb he hm hk
      have hbR : inR b := by rcases hb with z | ⟨j, z, z2, _⟩ <;> (unfold inR; omega)
      have inner : k < L.length → ∀ (m3 : Nat) (i : Nat) (y : Int), y = (if Lb < (L.getD k []).length then pb (L.getD k []) t i else 0) → (L.getD k []).length - i < m3 → i ≤ (L.getD k []).length → am_Go SH mX11_longestLeft 0 (am_rI (fun x σ2 => x = T ∧ σ2 = σ)) 57 [some (.ref 0), some (.int (iZ (f : Int))), some (.int (iZ b)), some (.int (iZ (k : Int))), some (.int (iZ y)), some (.int (iZ (i : Int)))] [] σ := by
        intro hlt m3
        have kk := h.2.2.1 k hlt
        have l3k := l3 k
        have hRk := okl_R (okr_get h.2.2.2.2.2.2.2.1 k).1
        rw [List.drop_eq_getElem_cons hlt, ← getD_in hlt] at he
        generalize hA : L.getD k [] = A at *
        induction m3 with
        | zero => intro i y _ hm3; exact absurd hm3 (by omega)
        | succ m3 ih3 =>
          intro i y hy hm3 hi
          have hy01 : y = 0 ∨ y = 1 := by rw [hy]; split; exact pb_01 _ _ _; exact Or.inl rfl
          refine go_iload dX11_longestLeft_57 rfl ?_
          refine go_aload_n dX11_longestLeft_59 rfl ?_
          refine go_getr fl_X11_7 dX11_longestLeft_60 sh_0 rfl ?_
          refine go_iload_n dX11_longestLeft_63 rfl ?_
          refine go_iaload dX11_longestLeft_64 (by first | assumption | rfl) (by first | assumption | exact Nat.le_of_ble_eq_true rfl) (by omega) (by omega) ?_
          rw [kk.1]
          refine go_icmp_ge (tgt := 109) dX11_longestLeft_65 (by decide) (by unfold inR; omega) (by unfold inR; omega) (fun b65 => ?_) (fun b65 => ?_)
          · skip
            refine go_iload dX11_longestLeft_109 rfl ?_
            refine go_if_eq (tgt := 118) dX11_longestLeft_111 (by decide) (by unfold inR; omega) (fun b111 => ?_) (fun b111 => ?_)
            · skip
              refine go_iload_n dX11_longestLeft_118 rfl ?_
              have hfin : y = if A <+: t ∧ Lb < A.length then 1 else 0 := by
                by_cases z : Lb < A.length
                · rw [if_pos z] at hy
                  rw [pb_end (by first | exact Or.inl (by omega) | exact Or.inr (by rw [← hy]; exact b70))] at hy
                  rw [hy]; by_cases z2 : A <+: t
                  · rw [if_pos z2, if_pos ⟨z2, z⟩]
                  · rw [if_neg z2, if_neg (fun q => z2 q.1)]
                · rw [if_neg z] at hy; rw [hy, if_neg (fun q => z q.2)]
              refine go_ist2 dX11_longestLeft_119 (Nat.le_of_ble_eq_true rfl) rfl ?_
              refine go_inc3 dX11_longestLeft_120 (Nat.le_of_ble_eq_true rfl) rfl ?_
              refine go_goto (tgt := 4) dX11_longestLeft_123 (by decide) ?_
              rw [show mt_lg t (A :: L.drop (k + 1)) k b Lb = if A <+: t ∧ Lb < A.length then mt_lg t (L.drop (k + 1)) ((k : Int) + 1) k A.length else mt_lg t (L.drop (k + 1)) ((k : Int) + 1) b Lb from rfl] at he
              first
                | (have z : ¬ (A <+: t ∧ Lb < A.length) := fun q => by rw [if_pos q, b111] at hfin; exact absurd hfin (by decide)
                   rw [if_neg z] at he
                   exact ih (k + 1) b Lb _ _ rfl rfl hb (by push_cast; exact he) (by omega) (by omega))
                | (have z : A <+: t ∧ Lb < A.length := by by_cases q : A <+: t ∧ Lb < A.length; exact q; rw [if_neg q] at hfin; exact absurd hfin b111
                   rw [if_pos z] at he
                   exact ih (k + 1) k A.length _ _ rfl rfl (Or.inr ⟨k, rfl, hlt, by rw [hA]⟩) (by push_cast; exact he) (by omega) (by omega))
            · skip
              refine go_iload_n dX11_longestLeft_114 rfl ?_
              refine go_goto (tgt := 119) dX11_longestLeft_115 (by decide) ?_
              have hfin : y = if A <+: t ∧ Lb < A.length then 1 else 0 := by
                by_cases z : Lb < A.length
                · rw [if_pos z] at hy
                  rw [pb_end (by first | exact Or.inl (by omega) | exact Or.inr (by rw [← hy]; exact b70))] at hy
                  rw [hy]; by_cases z2 : A <+: t
                  · rw [if_pos z2, if_pos ⟨z2, z⟩]
                  · rw [if_neg z2, if_neg (fun q => z2 q.1)]
                · rw [if_neg z] at hy; rw [hy, if_neg (fun q => z q.2)]
              refine go_ist2 dX11_longestLeft_119 (Nat.le_of_ble_eq_true rfl) rfl ?_
              refine go_inc3 dX11_longestLeft_120 (Nat.le_of_ble_eq_true rfl) rfl ?_
              refine go_goto (tgt := 4) dX11_longestLeft_123 (by decide) ?_
              rw [show mt_lg t (A :: L.drop (k + 1)) k b Lb = if A <+: t ∧ Lb < A.length then mt_lg t (L.drop (k + 1)) ((k : Int) + 1) k A.length else mt_lg t (L.drop (k + 1)) ((k : Int) + 1) b Lb from rfl] at he
              first
                | (have z : ¬ (A <+: t ∧ Lb < A.length) := fun q => by rw [if_pos q, b111] at hfin; exact absurd hfin (by decide)
                   rw [if_neg z] at he
                   exact ih (k + 1) b Lb _ _ rfl rfl hb (by push_cast; exact he) (by omega) (by omega))
                | (have z : A <+: t ∧ Lb < A.length := by by_cases q : A <+: t ∧ Lb < A.length; exact q; rw [if_neg q] at hfin; exact absurd hfin b111
                   rw [if_pos z] at he
                   exact ih (k + 1) k A.length _ _ rfl rfl (Or.inr ⟨k, rfl, hlt, by rw [hA]⟩) (by push_cast; exact he) (by omega) (by omega))
          · skip
            refine go_iload dX11_longestLeft_68 rfl ?_
            refine go_if_eq (tgt := 109) dX11_longestLeft_70 (by decide) (by unfold inR; omega) (fun b70 => ?_) (fun b70 => ?_)
            · skip
              refine go_iload dX11_longestLeft_109 rfl ?_
              refine go_if_eq (tgt := 118) dX11_longestLeft_111 (by decide) (by unfold inR; omega) (fun b111 => ?_) (fun b111 => ?_)
              · skip
                refine go_iload_n dX11_longestLeft_118 rfl ?_
                have hfin : y = if A <+: t ∧ Lb < A.length then 1 else 0 := by
                  by_cases z : Lb < A.length
                  · rw [if_pos z] at hy
                    rw [pb_end (by first | exact Or.inl (by omega) | exact Or.inr (by rw [← hy]; exact b70))] at hy
                    rw [hy]; by_cases z2 : A <+: t
                    · rw [if_pos z2, if_pos ⟨z2, z⟩]
                    · rw [if_neg z2, if_neg (fun q => z2 q.1)]
                  · rw [if_neg z] at hy; rw [hy, if_neg (fun q => z q.2)]
                refine go_ist2 dX11_longestLeft_119 (Nat.le_of_ble_eq_true rfl) rfl ?_
                refine go_inc3 dX11_longestLeft_120 (Nat.le_of_ble_eq_true rfl) rfl ?_
                refine go_goto (tgt := 4) dX11_longestLeft_123 (by decide) ?_
                rw [show mt_lg t (A :: L.drop (k + 1)) k b Lb = if A <+: t ∧ Lb < A.length then mt_lg t (L.drop (k + 1)) ((k : Int) + 1) k A.length else mt_lg t (L.drop (k + 1)) ((k : Int) + 1) b Lb from rfl] at he
                first
                  | (have z : ¬ (A <+: t ∧ Lb < A.length) := fun q => by rw [if_pos q, b111] at hfin; exact absurd hfin (by decide)
                     rw [if_neg z] at he
                     exact ih (k + 1) b Lb _ _ rfl rfl hb (by push_cast; exact he) (by omega) (by omega))
                  | (have z : A <+: t ∧ Lb < A.length := by by_cases q : A <+: t ∧ Lb < A.length; exact q; rw [if_neg q] at hfin; exact absurd hfin b111
                     rw [if_pos z] at he
                     exact ih (k + 1) k A.length _ _ rfl rfl (Or.inr ⟨k, rfl, hlt, by rw [hA]⟩) (by push_cast; exact he) (by omega) (by omega))
              · skip
                refine go_iload_n dX11_longestLeft_114 rfl ?_
                refine go_goto (tgt := 119) dX11_longestLeft_115 (by decide) ?_
                have hfin : y = if A <+: t ∧ Lb < A.length then 1 else 0 := by
                  by_cases z : Lb < A.length
                  · rw [if_pos z] at hy
                    rw [pb_end (by first | exact Or.inl (by omega) | exact Or.inr (by rw [← hy]; exact b70))] at hy
                    rw [hy]; by_cases z2 : A <+: t
                    · rw [if_pos z2, if_pos ⟨z2, z⟩]
                    · rw [if_neg z2, if_neg (fun q => z2 q.1)]
                  · rw [if_neg z] at hy; rw [hy, if_neg (fun q => z q.2)]
                refine go_ist2 dX11_longestLeft_119 (Nat.le_of_ble_eq_true rfl) rfl ?_
                refine go_inc3 dX11_longestLeft_120 (Nat.le_of_ble_eq_true rfl) rfl ?_
                refine go_goto (tgt := 4) dX11_longestLeft_123 (by decide) ?_
                rw [show mt_lg t (A :: L.drop (k + 1)) k b Lb = if A <+: t ∧ Lb < A.length then mt_lg t (L.drop (k + 1)) ((k : Int) + 1) k A.length else mt_lg t (L.drop (k + 1)) ((k : Int) + 1) b Lb from rfl] at he
                first
                  | (have z : ¬ (A <+: t ∧ Lb < A.length) := fun q => by rw [if_pos q, b111] at hfin; exact absurd hfin (by decide)
                     rw [if_neg z] at he
                     exact ih (k + 1) b Lb _ _ rfl rfl hb (by push_cast; exact he) (by omega) (by omega))
                  | (have z : A <+: t ∧ Lb < A.length := by by_cases q : A <+: t ∧ Lb < A.length; exact q; rw [if_neg q] at hfin; exact absurd hfin b111
                     rw [if_pos z] at he
                     exact ih (k + 1) k A.length _ _ rfl rfl (Or.inr ⟨k, rfl, hlt, by rw [hA]⟩) (by push_cast; exact he) (by omega) (by omega))
            · skip
              have hLb : Lb < A.length := by by_cases z : Lb < A.length; exact z; rw [if_neg z] at hy; exact absurd hy b70
              rw [if_pos hLb] at hy
              have hne : pb A t i ≠ 0 := by rw [← hy]; exact b70
              have hl := pb_len hne
              refine go_aload_n dX11_longestLeft_73 rfl ?_
              refine go_getr fl_X11_25 dX11_longestLeft_74 sh_0 rfl ?_
              refine go_iload_n dX11_longestLeft_77 rfl ?_
              refine go_iload dX11_longestLeft_78 rfl ?_
              refine go_iadd dX11_longestLeft_80 ?_
              have hd := p2.dr (f := f) (i := i) (by omega)
              refine go_iaload dX11_longestLeft_81 (by first | assumption | rfl) (by first | assumption | exact Nat.le_of_ble_eq_true rfl) (by omega) (by omega) ?_
              rw [hd, ht]
              refine go_aload_n dX11_longestLeft_82 rfl ?_
              refine go_getr fl_X11_16 dX11_longestLeft_83 sh_0 rfl ?_
              refine go_iconst dX11_longestLeft_86 ?_
              refine go_iload_n dX11_longestLeft_87 rfl ?_
              refine go_imul dX11_longestLeft_88 ?_
              refine go_iload dX11_longestLeft_89 rfl ?_
              refine go_iadd dX11_longestLeft_91 ?_
              refine go_iaload dX11_longestLeft_92 (by first | assumption | rfl) (by first | assumption | exact Nat.le_of_ble_eq_true rfl) (by omega) (by omega) ?_
              rw [kk.2 i (by omega)]
              refine go_icmp_ne (tgt := 100) dX11_longestLeft_93 (by decide) (ln_at_R hRt) (ln_at_R hRk) (fun b93 => ?_) (fun b93 => ?_)
              · skip
                refine go_iconst dX11_longestLeft_100 ?_
                refine go_ist4 dX11_longestLeft_101 (Nat.le_of_ble_eq_true rfl) rfl ?_
                refine go_inc5 dX11_longestLeft_103 (Nat.le_of_ble_eq_true rfl) rfl ?_
                refine go_goto (tgt := 57) dX11_longestLeft_106 (by decide) ?_
                refine ih3 (i + 1) _ ?_ (by omega) (by omega)
                rw [if_pos hLb, pb_step (by omega) hne]
                first | rw [if_pos (Eq.symm b93)] | rw [if_neg (fun z => b93 (Eq.symm z))]
              · skip
                refine go_iconst dX11_longestLeft_96 ?_
                refine go_goto (tgt := 101) dX11_longestLeft_97 (by decide) ?_
                refine go_ist4 dX11_longestLeft_101 (Nat.le_of_ble_eq_true rfl) rfl ?_
                refine go_inc5 dX11_longestLeft_103 (Nat.le_of_ble_eq_true rfl) rfl ?_
                refine go_goto (tgt := 57) dX11_longestLeft_106 (by decide) ?_
                refine ih3 (i + 1) _ ?_ (by omega) (by omega)
                rw [if_pos hLb, pb_step (by omega) hne]
                first | rw [if_pos (Eq.symm b93)] | rw [if_neg (fun z => b93 (Eq.symm z))]
      have kk : k < L.length → σ.2.2 1 (k : Int) = ((L.getD k []).length : Int) := fun hlt => (h.2.2.1 k hlt).1
      have l3k := l3 k
      refine go_iload_n dX11_longestLeft_4 rfl ?_
      refine go_aload_n dX11_longestLeft_5 rfl ?_
      refine go_geti fl_X11_109 dX11_longestLeft_6 sh_0 rfl ?_
      first | (rw [h.1]) | skip
      refine go_icmp_ge (tgt := 126) dX11_longestLeft_9 (by decide) (by unfold inR; omega) (by unfold inR; omega) (fun b9 => ?_) (fun b9 => ?_)
      · skip
        refine go_iload_n dX11_longestLeft_126 rfl ?_
        refine go_retI dX11_longestLeft_127 rfl ?_
        refine ⟨?_, rfl⟩
        rw [List.drop_eq_nil_of_le (by omega)] at he
        exact he
      · skip
        have hlt : k < L.length := by omega
        refine go_iload_n dX11_longestLeft_12 rfl ?_
        refine go_aload_n dX11_longestLeft_13 rfl ?_
        refine go_getr fl_X11_7 dX11_longestLeft_14 sh_0 rfl ?_
        refine go_iload_n dX11_longestLeft_17 rfl ?_
        refine go_iaload dX11_longestLeft_18 (by first | assumption | rfl) (by first | assumption | exact Nat.le_of_ble_eq_true rfl) (by omega) (by omega) ?_
        first | (rw [h.1]) | skip
        rw [kk hlt]
        refine go_iadd dX11_longestLeft_19 ?_
        refine go_aload_n dX11_longestLeft_20 rfl ?_
        refine go_geti fl_X11_75 dX11_longestLeft_21 sh_0 rfl ?_
        first | (rw [h.1]) | skip
        rw [p1]
        refine go_icmp_gt (tgt := 51) dX11_longestLeft_24 (by decide) (by unfold inR; omega) (by unfold inR; omega) (fun b24 => ?_) (fun b24 => ?_)
        · skip
          refine go_iconst dX11_longestLeft_51 ?_
          refine go_ist4 dX11_longestLeft_52 (Nat.le_of_ble_eq_true rfl) rfl ?_
          refine go_iconst dX11_longestLeft_54 ?_
          refine go_ist5 dX11_longestLeft_55 (Nat.le_of_ble_eq_true rfl) rfl ?_
          first | rw [← j1] | skip
          refine inner hlt ((L.getD k []).length + 1) 0 _ ?_ (by omega) (by omega)
          have h1k := hr1 k hlt
          rw [pb_0]
          first
            | rw [if_pos (show Lb < (L.getD k []).length by omega), if_pos (by omega)]
            | rw [if_neg (show ¬ Lb < (L.getD k []).length by omega)]
            | (rcases hb with z | ⟨j0, z, _⟩; rw [if_pos (show Lb < (L.getD k []).length by omega), if_pos (by omega)]; exact absurd b29 (by omega))
            | (split; rw [if_neg (by omega)]; rfl)
        · skip
          refine go_iload_n dX11_longestLeft_27 rfl ?_
          refine go_iconst dX11_longestLeft_28 ?_
          refine go_icmp_eq (tgt := 47) dX11_longestLeft_29 (by decide) hbR (by unfold inR; omega) (fun b29 => ?_) (fun b29 => ?_)
          · skip
            refine go_iconst dX11_longestLeft_47 ?_
            refine go_goto (tgt := 52) dX11_longestLeft_48 (by decide) ?_
            refine go_ist4 dX11_longestLeft_52 (Nat.le_of_ble_eq_true rfl) rfl ?_
            refine go_iconst dX11_longestLeft_54 ?_
            refine go_ist5 dX11_longestLeft_55 (Nat.le_of_ble_eq_true rfl) rfl ?_
            first | rw [← j1] | skip
            refine inner hlt ((L.getD k []).length + 1) 0 _ ?_ (by omega) (by omega)
            have h1k := hr1 k hlt
            rw [pb_0]
            first
              | rw [if_pos (show Lb < (L.getD k []).length by omega), if_pos (by omega)]
              | rw [if_neg (show ¬ Lb < (L.getD k []).length by omega)]
              | (rcases hb with z | ⟨j0, z, _⟩; rw [if_pos (show Lb < (L.getD k []).length by omega), if_pos (by omega)]; exact absurd b29 (by omega))
              | (split; rw [if_neg (by omega)]; rfl)
          · skip
            obtain ⟨j, j1, j2, j3⟩ := hb.resolve_left (fun z => b29 z.1)
            have l3j := l3 j
            refine go_aload_n dX11_longestLeft_32 rfl ?_
            refine go_getr fl_X11_7 dX11_longestLeft_33 sh_0 rfl ?_
            refine go_iload_n dX11_longestLeft_36 rfl ?_
            refine go_iaload dX11_longestLeft_37 (by first | assumption | rfl) (by first | assumption | exact Nat.le_of_ble_eq_true rfl) (by omega) (by omega) ?_
            first | (rw [h.1]) | skip
            rw [kk hlt]
            refine go_aload_n dX11_longestLeft_38 rfl ?_
            refine go_getr fl_X11_7 dX11_longestLeft_39 sh_0 rfl ?_
            refine go_iload_n dX11_longestLeft_42 rfl ?_
            rw [j1]
            refine go_iaload dX11_longestLeft_43 (by first | assumption | rfl) (by first | assumption | exact Nat.le_of_ble_eq_true rfl) (by omega) (by omega) ?_
            first | (rw [h.1]) | skip
            rw [(h.2.2.1 j j2).1]
            refine go_icmp_le (tgt := 51) dX11_longestLeft_44 (by decide) (by unfold inR; omega) (by unfold inR; omega) (fun b44 => ?_) (fun b44 => ?_)
            · skip
              refine go_iconst dX11_longestLeft_51 ?_
              refine go_ist4 dX11_longestLeft_52 (Nat.le_of_ble_eq_true rfl) rfl ?_
              refine go_iconst dX11_longestLeft_54 ?_
              refine go_ist5 dX11_longestLeft_55 (Nat.le_of_ble_eq_true rfl) rfl ?_
              first | rw [← j1] | skip
              refine inner hlt ((L.getD k []).length + 1) 0 _ ?_ (by omega) (by omega)
              have h1k := hr1 k hlt
              rw [pb_0]
              first
                | rw [if_pos (show Lb < (L.getD k []).length by omega), if_pos (by omega)]
                | rw [if_neg (show ¬ Lb < (L.getD k []).length by omega)]
                | (rcases hb with z | ⟨j0, z, _⟩; rw [if_pos (show Lb < (L.getD k []).length by omega), if_pos (by omega)]; exact absurd b29 (by omega))
                | (split; rw [if_neg (by omega)]; rfl)
            · skip
              refine go_iconst dX11_longestLeft_47 ?_
              refine go_goto (tgt := 52) dX11_longestLeft_48 (by decide) ?_
              refine go_ist4 dX11_longestLeft_52 (Nat.le_of_ble_eq_true rfl) rfl ?_
              refine go_iconst dX11_longestLeft_54 ?_
              refine go_ist5 dX11_longestLeft_55 (Nat.le_of_ble_eq_true rfl) rfl ?_
              first | rw [← j1] | skip
              refine inner hlt ((L.getD k []).length + 1) 0 _ ?_ (by omega) (by omega)
              have h1k := hr1 k hlt
              rw [pb_0]
              first
                | rw [if_pos (show Lb < (L.getD k []).length by omega), if_pos (by omega)]
                | rw [if_neg (show ¬ Lb < (L.getD k []).length by omega)]
                | (rcases hb with z | ⟨j0, z, _⟩; rw [if_pos (show Lb < (L.getD k []).length by omega), if_pos (by omega)]; exact absurd b29 (by omega))
                | (split; rw [if_neg (by omega)]; rfl)
  refine am_ev (by decide) [some (.ref 0), some (.int (iZ ((f : Int)))), none, none, none, none] rfl (Nat.le_of_ble_eq_true rfl) ?_
  refine go_iconst dX11_longestLeft_0 ?_
  refine go_ist2 dX11_longestLeft_1 (Nat.le_of_ble_eq_true rfl) rfl ?_
  refine go_iconst dX11_longestLeft_2 ?_
  refine go_ist3 dX11_longestLeft_3 (Nat.le_of_ble_eq_true rfl) rfl ?_
  exact loop (L.length + 1) 0 (-1) 0 none none rfl rfl (Or.inl ⟨rfl, rfl⟩) hT (by omega) (by omega)
