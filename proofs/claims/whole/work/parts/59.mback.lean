/-! ===== the reference: back ===== -/
/-- the text that is looked at -/
def wkM (σ : am_St) (xs : List Int) : Prop := σ.1 0 21 = (xs.length : Int) ∧ arA σ 12 xs ∧ okl xs ∧ xs.length ≤ 200
theorem wkM.fr {σ σ' : am_St} {xs : List Int} {fs as : List Nat} (h : wkM σ xs) (ho : fr fs as σ σ') (h1 : 21 ∉ fs) (h2 : 12 ∉ as) : wkM σ' xs := ⟨by rw [ho.f 21 h1]; exact h.1, h.2.1.fr ho h2, h.2.2⟩
theorem ev_X11_lies {σ : am_St} {L R : List (List Int)} {m r f : Nat} {xs : List Int} (h : tbM σ L R m) (hr : r < R.length) (hw : wkM σ xs) (hf : f ≤ xs.length) : am_Ev SH mX11_lies 1 [.ref 0, .int (iZ (r : Int)), .int (iZ (f : Int))] σ (am_rI (fun x σ2 => x = (if (mt_sg R m).getD r [] <+: xs.drop f then 1 else 0) ∧ σ2 = σ)) := by
  obtain ⟨w1, w2, w3, w4⟩ := hw
  have sl := ev_X11_signLength h hr
  have sa := fun p => ev_X11_signAt (p := p) h hr
  have h4a := (h.sg r).2
  have ra := okl_R (h.sg r).1
  have hdl : (xs.drop f).length = xs.length - f := List.length_drop
  have rt : ∀ x ∈ xs.drop f, inR x := okl_R (w3.drop f)
  generalize hA : (mt_sg R m).getD r [] = A at *
  generalize ht : xs.drop f = t at *
  have loop : ∀ (m2 : Nat) (i : Nat) (y : Int), y = pb A t i → A.length - i < m2 → i ≤ A.length → am_Go SH mX11_lies 1 (am_rI (fun x σ2 => x = (if A <+: t then 1 else 0) ∧ σ2 = σ)) 23 [some (.ref 0), some (.int (iZ (r : Int))), some (.int (iZ (f : Int))), some (.int (iZ y)), some (.int (iZ (i : Int)))] [] σ := by
    intro m2
    induction m2 with
    | zero => intro i y _ hm; exact absurd hm (by omega)
    | succ m2 ih =>
      intro i y hy hm hi
      have hy01 : y = 0 ∨ y = 1 := by rw [hy]; exact pb_01 _ _ _
      refine go_iload dX11_lies_23 rfl ?_
      refine go_aload_n dX11_lies_25 rfl ?_
      refine go_iload_n dX11_lies_26 rfl ?_
      refine go_cvP1 (M2 := mX11_signLength) dX11_lies_27 ml_X11_137 mv_X11_signLength sh_0 rfl rfl (Nat.le_of_ble_eq_true rfl) (by decide) (sl) ?_
      refine go_icmp_ge (tgt := 68) dX11_lies_30 (by decide) (by unfold inR; omega) (by unfold inR; omega) (fun b30 => ?_) (fun b30 => ?_)
      · skip
        refine go_iload_n dX11_lies_68 rfl ?_
        refine go_retZ dX11_lies_69 rfl hy01 ?_
        exact ⟨by rw [hy]; exact pb_end (by first | exact Or.inl (by omega) | exact Or.inr (by rw [← hy]; exact b34)), rfl⟩
      · skip
        refine go_iload_n dX11_lies_33 rfl ?_
        refine go_if_eq (tgt := 68) dX11_lies_34 (by decide) (by unfold inR; omega) (fun b34 => ?_) (fun b34 => ?_)
        · skip
          refine go_iload_n dX11_lies_68 rfl ?_
          refine go_retZ dX11_lies_69 rfl hy01 ?_
          exact ⟨by rw [hy]; exact pb_end (by first | exact Or.inl (by omega) | exact Or.inr (by rw [← hy]; exact b34)), rfl⟩
        · skip
          have hne : pb A t i ≠ 0 := by rw [← hy]; exact b34
          have hl := pb_len hne
          refine go_aload_n dX11_lies_37 rfl ?_
          refine go_getr fl_X11_43 dX11_lies_38 sh_0 rfl ?_
          refine go_iload_n dX11_lies_41 rfl ?_
          refine go_iload dX11_lies_42 rfl ?_
          refine go_iadd dX11_lies_44 ?_
          have hd := w2.dr (f := f) (i := i) (by omega)
          refine go_iaload dX11_lies_45 (by first | assumption | rfl) (by first | assumption | exact Nat.le_of_ble_eq_true rfl) (by omega) (by omega) ?_
          rw [hd, ht]
          refine go_aload_n dX11_lies_46 rfl ?_
          refine go_iload_n dX11_lies_47 rfl ?_
          refine go_iload dX11_lies_48 rfl ?_
          refine go_cvP2 (M2 := mX11_signAt) dX11_lies_50 ml_X11_140 mv_X11_signAt sh_0 rfl rfl (Nat.le_of_ble_eq_true rfl) (by decide) (sa i (by omega)) ?_
          refine go_icmp_ne (tgt := 60) dX11_lies_53 (by decide) (ln_at_R rt) (ln_at_R ra) (fun b53 => ?_) (fun b53 => ?_)
          · skip
            refine go_iconst dX11_lies_60 ?_
            refine go_ist3 dX11_lies_61 (Nat.le_of_ble_eq_true rfl) rfl ?_
            refine go_inc4 dX11_lies_62 (Nat.le_of_ble_eq_true rfl) rfl ?_
            refine go_goto (tgt := 23) dX11_lies_65 (by decide) ?_
            refine ih (i + 1) _ ?_ (by omega) (by omega)
            rw [pb_step (by omega) hne]
            first | rw [if_pos (Eq.symm b53)] | rw [if_neg (fun z => b53 (Eq.symm z))]
          · skip
            refine go_iconst dX11_lies_56 ?_
            refine go_goto (tgt := 61) dX11_lies_57 (by decide) ?_
            refine go_ist3 dX11_lies_61 (Nat.le_of_ble_eq_true rfl) rfl ?_
            refine go_inc4 dX11_lies_62 (Nat.le_of_ble_eq_true rfl) rfl ?_
            refine go_goto (tgt := 23) dX11_lies_65 (by decide) ?_
            refine ih (i + 1) _ ?_ (by omega) (by omega)
            rw [pb_step (by omega) hne]
            first | rw [if_pos (Eq.symm b53)] | rw [if_neg (fun z => b53 (Eq.symm z))]
  refine am_ev (by decide) [some (.ref 0), some (.int (iZ ((r : Int)))), some (.int (iZ ((f : Int)))), none, none] rfl (Nat.le_of_ble_eq_true rfl) ?_
  refine go_iload_n dX11_lies_0 rfl ?_
  refine go_aload_n dX11_lies_1 rfl ?_
  refine go_iload_n dX11_lies_2 rfl ?_
  refine go_cvP1 (M2 := mX11_signLength) dX11_lies_3 ml_X11_137 mv_X11_signLength sh_0 rfl rfl (Nat.le_of_ble_eq_true rfl) (by decide) (sl) ?_
  refine go_iadd dX11_lies_6 ?_
  refine go_aload_n dX11_lies_7 rfl ?_
  refine go_geti fl_X11_167 dX11_lies_8 sh_0 rfl ?_
  first | (rw [w1]) | skip
  refine go_icmp_gt (tgt := 18) dX11_lies_11 (by decide) (by unfold inR; omega) (by unfold inR; omega) (fun b11 => ?_) (fun b11 => ?_)
  · skip
    refine go_iconst dX11_lies_18 ?_
    refine go_ist3 dX11_lies_19 (Nat.le_of_ble_eq_true rfl) rfl ?_
    refine go_iconst dX11_lies_20 ?_
    refine go_ist4 dX11_lies_21 (Nat.le_of_ble_eq_true rfl) rfl ?_
    refine loop (A.length + 1) 0 _ ?_ (by omega) (by omega)
    rw [pb_0]
    first | rw [if_pos (by omega)] | rw [if_neg (by omega)]
  · skip
    refine go_iconst dX11_lies_14 ?_
    refine go_goto (tgt := 19) dX11_lies_15 (by decide) ?_
    refine go_ist3 dX11_lies_19 (Nat.le_of_ble_eq_true rfl) rfl ?_
    refine go_iconst dX11_lies_20 ?_
    refine go_ist4 dX11_lies_21 (Nat.le_of_ble_eq_true rfl) rfl ?_
    refine loop (A.length + 1) 0 _ ?_ (by omega) (by omega)
    rw [pb_0]
    first | rw [if_pos (by omega)] | rw [if_neg (by omega)]
theorem ev_X11_longestSign {σ : am_St} {L R : List (List Int)} {m f : Nat} {xs : List Int} (h : tbM σ L R m) (hw : wkM σ xs) (hf : f ≤ xs.length) : am_Ev SH mX11_longestSign 2 [.ref 0, .int (iZ (f : Int))] σ (am_rI (fun x σ2 => x = mt_long (mt_sg R m) (xs.drop f) ∧ σ2 = σ)) := by
  have h8 := h.2.2.2.2.2.1
  have hr1 := fun i (hi : i < R.length) => h.sg1 hi
  have l4 := fun i => (h.sg i).2
  have lies := fun r (hr : r < R.length) => ev_X11_lies h hr hw hf
  have sl := fun r (hr : r < R.length) => ev_X11_signLength h hr
  have hSl := mt_sg_len R m
  generalize hS : mt_sg R m = S at *
  generalize hT : mt_long S (xs.drop f) = T
  generalize ht : xs.drop f = t at *
  have loop : ∀ (m2 : Nat) (k : Nat) (b : Int) (Lb : Nat) (o4 : Option Value), am_nl o4 = true → ((b = -1 ∧ Lb = 0) ∨ ∃ j : Nat, b = j ∧ j < S.length ∧ Lb = (S.getD j []).length) → mt_lg t (S.drop k) k b Lb = T → S.length - k < m2 → k ≤ S.length → am_Go SH mX11_longestSign 2 (am_rI (fun x σ2 => x = T ∧ σ2 = σ)) 4 [some (.ref 0), some (.int (iZ (f : Int))), some (.int (iZ b)), some (.int (iZ (k : Int))), o4] [] σ := by
    intro m2
    induction m2 with
    | zero => intro k b Lb o4 _ _ _ hm; exact absurd hm (by omega)
    | succ m2 ih =>
      intro k b Lb o4 n4 hb he hm hk
      have hbR : inR b := by rcases hb with z | ⟨j, z, z2, _⟩ <;> (unfold inR; omega)
      have tail : k < S.length → ∀ y : Int, y = (if S.getD k [] <+: t ∧ Lb < (S.getD k []).length then 1 else 0) → am_Go SH mX11_longestSign 2 (am_rI (fun x σ2 => x = T ∧ σ2 = σ)) 44 [some (.ref 0), some (.int (iZ (f : Int))), some (.int (iZ b)), some (.int (iZ (k : Int))), o4] [.int (iZ y)] σ := by
        intro hlt y hy
        have hy01 : y = 0 ∨ y = 1 := by rw [hy]; split <;> simp
        rw [List.drop_eq_getElem_cons hlt, ← getD_in hlt] at he
        generalize hA : S.getD k [] = A at *
        rw [show mt_lg t (A :: S.drop (k + 1)) k b Lb = if A <+: t ∧ Lb < A.length then mt_lg t (S.drop (k + 1)) ((k : Int) + 1) k A.length else mt_lg t (S.drop (k + 1)) ((k : Int) + 1) b Lb from rfl] at he
        refine go_ist4 dX11_longestSign_44 (Nat.le_of_ble_eq_true rfl) rfl ?_
        refine go_iload dX11_longestSign_46 rfl ?_
        refine go_if_eq (tgt := 55) dX11_longestSign_48 (by decide) (by unfold inR; omega) (fun b48 => ?_) (fun b48 => ?_)
        · skip
          refine go_iload_n dX11_longestSign_55 rfl ?_
          refine go_ist2 dX11_longestSign_56 (Nat.le_of_ble_eq_true rfl) rfl ?_
          refine go_inc3 dX11_longestSign_57 (Nat.le_of_ble_eq_true rfl) rfl ?_
          refine go_goto (tgt := 4) dX11_longestSign_60 (by decide) ?_
          first
            | (have z : ¬ (A <+: t ∧ Lb < A.length) := fun q => by rw [if_pos q, b48] at hy; exact absurd hy (by decide)
               rw [if_neg z] at he
               exact ih (k + 1) b Lb _ rfl hb (by push_cast; exact he) (by omega) (by omega))
            | (have z : A <+: t ∧ Lb < A.length := by by_cases q : A <+: t ∧ Lb < A.length; exact q; rw [if_neg q] at hy; exact absurd hy b48
               rw [if_pos z] at he
               exact ih (k + 1) k A.length _ rfl (Or.inr ⟨k, rfl, hlt, by rw [hA]⟩) (by push_cast; exact he) (by omega) (by omega))
        · skip
          refine go_iload_n dX11_longestSign_51 rfl ?_
          refine go_goto (tgt := 56) dX11_longestSign_52 (by decide) ?_
          refine go_ist2 dX11_longestSign_56 (Nat.le_of_ble_eq_true rfl) rfl ?_
          refine go_inc3 dX11_longestSign_57 (Nat.le_of_ble_eq_true rfl) rfl ?_
          refine go_goto (tgt := 4) dX11_longestSign_60 (by decide) ?_
          first
            | (have z : ¬ (A <+: t ∧ Lb < A.length) := fun q => by rw [if_pos q, b48] at hy; exact absurd hy (by decide)
               rw [if_neg z] at he
               exact ih (k + 1) b Lb _ rfl hb (by push_cast; exact he) (by omega) (by omega))
            | (have z : A <+: t ∧ Lb < A.length := by by_cases q : A <+: t ∧ Lb < A.length; exact q; rw [if_neg q] at hy; exact absurd hy b48
               rw [if_pos z] at he
               exact ih (k + 1) k A.length _ rfl (Or.inr ⟨k, rfl, hlt, by rw [hA]⟩) (by push_cast; exact he) (by omega) (by omega))
      have l4k := l4 k
      refine go_iload_n dX11_longestSign_4 rfl ?_
      refine go_aload_n dX11_longestSign_5 rfl ?_
      refine go_geti fl_X11_109 dX11_longestSign_6 sh_0 rfl ?_
      first | (rw [h.1]) | skip
      refine go_icmp_ge (tgt := 63) dX11_longestSign_9 (by decide) (by unfold inR; omega) (by unfold inR; omega) (fun b9 => ?_) (fun b9 => ?_)
      · skip
        refine go_iload_n dX11_longestSign_63 rfl ?_
        refine go_retI dX11_longestSign_64 rfl ?_
        refine ⟨?_, rfl⟩
        rw [List.drop_eq_nil_of_le (by omega)] at he
        exact he
      · skip
        have hlt : k < S.length := by omega
        have h1k := hr1 k (by omega)
        refine go_aload_n dX11_longestSign_12 rfl ?_
        refine go_iload_n dX11_longestSign_13 rfl ?_
        refine go_iload_n dX11_longestSign_14 rfl ?_
        refine go_cvP2 (M2 := mX11_lies) dX11_longestSign_15 ml_X11_170 mv_X11_lies sh_0 rfl rfl (Nat.le_of_ble_eq_true rfl) (by decide) (lies k (by omega)) ?_
        refine go_if_eq (tgt := 43) dX11_longestSign_18 (by decide) (by unfold inR; split <;> omega) (fun b18 => ?_) (fun b18 => ?_)
        · skip
          refine go_iconst dX11_longestSign_43 ?_
          refine tail hlt _ ?_
          first
            | exact (if_pos ⟨hpre, by omega⟩).symm
            | exact (if_neg (fun z => by have := z.2; omega)).symm
            | exact (if_neg (fun z => by rw [if_pos z.1] at b18; exact absurd b18 (by decide))).symm
        · skip
          have hpre : S.getD k [] <+: t := by by_cases q : S.getD k [] <+: t; exact q; rw [if_neg q] at b18; exact absurd rfl b18
          refine go_iload_n dX11_longestSign_21 rfl ?_
          refine go_iconst dX11_longestSign_22 ?_
          refine go_icmp_eq (tgt := 39) dX11_longestSign_23 (by decide) hbR (by unfold inR; omega) (fun b23 => ?_) (fun b23 => ?_)
          · skip
            refine go_iconst dX11_longestSign_39 ?_
            refine go_goto (tgt := 44) dX11_longestSign_40 (by decide) ?_
            refine tail hlt _ ?_
            first
              | exact (if_pos ⟨hpre, by omega⟩).symm
              | exact (if_neg (fun z => by have := z.2; omega)).symm
              | exact (if_neg (fun z => by rw [if_pos z.1] at b18; exact absurd b18 (by decide))).symm
          · skip
            obtain ⟨j, rfl, j2, j3⟩ := hb.resolve_left (fun z => b23 z.1)
            have l4j := l4 j
            refine go_aload_n dX11_longestSign_26 rfl ?_
            refine go_iload_n dX11_longestSign_27 rfl ?_
            refine go_cvP1 (M2 := mX11_signLength) dX11_longestSign_28 ml_X11_137 mv_X11_signLength sh_0 rfl rfl (Nat.le_of_ble_eq_true rfl) (by decide) (sl k (by omega)) ?_
            refine go_aload_n dX11_longestSign_31 rfl ?_
            refine go_iload_n dX11_longestSign_32 rfl ?_
            refine go_cvP1 (M2 := mX11_signLength) dX11_longestSign_33 ml_X11_137 mv_X11_signLength sh_0 rfl rfl (Nat.le_of_ble_eq_true rfl) (by decide) (sl j (by omega)) ?_
            refine go_icmp_le (tgt := 43) dX11_longestSign_36 (by decide) (by unfold inR; omega) (by unfold inR; omega) (fun b36 => ?_) (fun b36 => ?_)
            · skip
              refine go_iconst dX11_longestSign_43 ?_
              refine tail hlt _ ?_
              first
                | exact (if_pos ⟨hpre, by omega⟩).symm
                | exact (if_neg (fun z => by have := z.2; omega)).symm
                | exact (if_neg (fun z => by rw [if_pos z.1] at b18; exact absurd b18 (by decide))).symm
            · skip
              refine go_iconst dX11_longestSign_39 ?_
              refine go_goto (tgt := 44) dX11_longestSign_40 (by decide) ?_
              refine tail hlt _ ?_
              first
                | exact (if_pos ⟨hpre, by omega⟩).symm
                | exact (if_neg (fun z => by have := z.2; omega)).symm
                | exact (if_neg (fun z => by rw [if_pos z.1] at b18; exact absurd b18 (by decide))).symm
  refine am_ev (by decide) [some (.ref 0), some (.int (iZ ((f : Int)))), none, none, none] rfl (Nat.le_of_ble_eq_true rfl) ?_
  refine go_iconst dX11_longestSign_0 ?_
  refine go_ist2 dX11_longestSign_1 (Nat.le_of_ble_eq_true rfl) rfl ?_
  refine go_iconst dX11_longestSign_2 ?_
  refine go_ist3 dX11_longestSign_3 (Nat.le_of_ble_eq_true rfl) rfl ?_
  exact loop (S.length + 1) 0 (-1) 0 none rfl (Or.inl ⟨rfl, rfl⟩) hT (by omega) (by omega)
theorem ev_X11_workText {σ : am_St} {s : mS} (h : RepM σ s) : am_Ev SH mX11_workText 0 [.ref 0] σ (am_rV (fun σ2 => wkM σ2 s.2.2.2.1 ∧ fr [21] [12] σ σ2)) := by
  obtain ⟨a1, a2, a3, a4⟩ := h.2.2.1
  have loop : ∀ (m2 : Nat) (i : Nat) (σ1 : am_St), s.2.2.2.1.length - i < m2 → i ≤ s.2.2.2.1.length → fr [21] [12] σ σ1 → σ1.1 0 21 = (s.2.2.2.1.length : Int) → (∀ j : Nat, j < i → σ1.2.2 12 (j : Int) = ln_at s.2.2.2.1 (j : Int)) → am_Go SH mX11_workText 0 (am_rV (fun σ2 => wkM σ2 s.2.2.2.1 ∧ fr [21] [12] σ σ2)) 10 [some (.ref 0), some (.int (iZ (i : Int)))] [] σ1 := by
    intro m2
    induction m2 with
    | zero => intro i σ1 hm; exact absurd hm (by omega)
    | succ m2 ih =>
      intro i σ1 hm2 hi ho hl ha
      have q1 : σ1.1 0 7 = (s.2.2.2.1.length : Int) := by rw [ho.f 7 (by decide)]; exact a1
      have q2 := a2.fr ho (by decide)
      refine go_iload_n dX11_workText_10 rfl ?_
      refine go_aload_n dX11_workText_11 rfl ?_
      refine go_geti fl_X11_118 dX11_workText_12 sh_0 rfl ?_
      first | (rw [q1]) | (rw [q2 i (by omega)]) | skip
      refine go_icmp_ge (tgt := 36) dX11_workText_15 (by decide) (by unfold inR; omega) (by unfold inR; omega) (fun b15 => ?_) (fun b15 => ?_)
      · skip
        refine go_retV dX11_workText_36 rfl ?_
        exact ⟨⟨hl, fun j hj => ha j (by omega), a3, by omega⟩, ho⟩
      · skip
        refine go_aload_n dX11_workText_18 rfl ?_
        refine go_getr fl_X11_43 dX11_workText_19 sh_0 rfl ?_
        refine go_iload_n dX11_workText_22 rfl ?_
        refine go_aload_n dX11_workText_23 rfl ?_
        refine go_getr fl_X11_22 dX11_workText_24 sh_0 rfl ?_
        refine go_iload_n dX11_workText_27 rfl ?_
        refine go_iaload dX11_workText_28 (by first | assumption | rfl) (by first | assumption | exact Nat.le_of_ble_eq_true rfl) (by omega) (by omega) ?_
        first | (rw [q1]) | (rw [q2 i (by omega)]) | skip
        refine go_iastore dX11_workText_29 (by first | assumption | rfl) (by first | assumption | exact Nat.le_of_ble_eq_true rfl) (by omega) (by omega) ?_
        refine go_inc1 dX11_workText_30 (Nat.le_of_ble_eq_true rfl) rfl ?_
        refine go_goto (tgt := 10) dX11_workText_33 (by decide) ?_
        refine ih (i + 1) _ (by omega) (by omega) (ho.tr (fr_sa (by decide))) hl (fun j hj => ?_)
        show (if 12 = 12 ∧ (j : Int) = (i : Int) then _ else σ1.2.2 12 (j : Int)) = _
        by_cases e : j = i
        · rw [if_pos ⟨rfl, by omega⟩, e]
        · rw [if_neg (by omega)]; exact ha j (by omega)
  refine am_ev (by decide) [some (.ref 0), none] rfl (Nat.le_of_ble_eq_true rfl) ?_
  refine go_aload_n dX11_workText_0 rfl ?_
  refine go_aload_n dX11_workText_1 rfl ?_
  refine go_geti fl_X11_118 dX11_workText_2 sh_0 rfl ?_
  first | (rw [a1]) | skip
  refine go_puti fl_X11_167 dX11_workText_5 sh_0 rfl am_fit_int ?_
  refine go_iconst dX11_workText_8 ?_
  refine go_ist1 dX11_workText_9 (Nat.le_of_ble_eq_true rfl) rfl ?_
  exact loop (s.2.2.2.1.length + 1) 0 _ (by omega) (by omega) (fr_si (by decide)) (by simp [am_si]) (fun j hj => absurd hj (by omega))
def bkM (σ : am_St) (S : List (List Int)) (xs : List Int) : Prop := σ.1 0 25 = ((mt_dec S xs.length xs 0).1.length : Int) ∧ σ.1 0 26 = (if (mt_dec S xs.length xs 0).2 < xs.length then (mt_dec S xs.length xs 0).2 else -1) ∧ arA σ 15 (mt_dec S xs.length xs 0).1
theorem lbk_end {σ1 : am_St} {P : am_St → Prop} {i n r : Int} {Q : am_St → Prop} (hlt : i < n) (hi : 0 ≤ i ∧ n ≤ 200) (h21 : σ1.1 0 21 = n) (h26 : σ1.1 0 26 = i) (hP : P σ1) (hQ : Q σ1) : am_Go SH mX11_layBack 3 (am_rV (fun σ2 => P σ2 ∧ Q σ2)) 75 [some (.ref 0), some (.int (iZ i)), some (.int (iZ r))] [] σ1 := by
  refine go_goto (tgt := 12) dX11_layBack_75 (by decide) ?_
  refine go_iload_n dX11_layBack_12 rfl ?_
  refine go_aload_n dX11_layBack_13 rfl ?_
  refine go_geti fl_X11_167 dX11_layBack_14 sh_0 rfl ?_
  first | (rw [h21]) | (rw [h26]) | skip
  refine go_icmp_ge (tgt := 78) dX11_layBack_17 (by decide) (by unfold inR; omega) (by unfold inR; omega) (fun b17 => ?_) (fun b17 => ?_)
  · skip
    omega
  · skip
    refine go_aload_n dX11_layBack_20 rfl ?_
    refine go_geti fl_X11_177 dX11_layBack_21 sh_0 rfl ?_
    first | (rw [h21]) | (rw [h26]) | skip
    refine go_iconst dX11_layBack_24 ?_
    refine go_icmp_ne (tgt := 78) dX11_layBack_25 (by decide) (by unfold inR; omega) (by unfold inR; omega) (fun b25 => ?_) (fun b25 => ?_)
    · skip
      refine go_retV dX11_layBack_78 rfl ?_
      exact ⟨hP, hQ⟩
    · skip
      omega
theorem ev_X11_layBack {σ : am_St} {L R : List (List Int)} {m : Nat} {xs : List Int} (h : tbM σ L R m) (hw : wkM σ xs) : am_Ev SH mX11_layBack 3 [.ref 0] σ (am_rV (fun σ2 => bkM σ2 (mt_sg R m) xs ∧ fr [25, 26] [15] σ σ2)) := by
  have h8 := h.2.2.2.2.2.1
  have hSl := mt_sg_len R m
  unfold bkM
  generalize hT : mt_dec (mt_sg R m) xs.length xs 0 = T
  have w4 := hw.2.2.2
  have loop : ∀ (m2 : Nat) (i fu : Nat) (rows : List Int) (o : Option Value) (σ1 : am_St), am_nl o = true → xs.length - i < m2 → i ≤ xs.length → xs.length - i ≤ fu → rows.length ≤ i → fr [25, 26] [15] σ σ1 → σ1.1 0 25 = (rows.length : Int) → σ1.1 0 26 = -1 → arA σ1 15 rows → rows ++ (mt_dec (mt_sg R m) fu (xs.drop i) i).1 = T.1 → (mt_dec (mt_sg R m) fu (xs.drop i) i).2 = T.2 → am_Go SH mX11_layBack 3 (am_rV (fun σ2 => (σ2.1 0 25 = (T.1.length : Int) ∧ σ2.1 0 26 = (if T.2 < xs.length then T.2 else -1) ∧ arA σ2 15 T.1) ∧ fr [25, 26] [15] σ σ2)) 12 [some (.ref 0), some (.int (iZ (i : Int))), o] [] σ1 := by
    intro m2
    induction m2 with
    | zero => intro i fu rows o σ1 _ hm; exact absurd hm (by omega)
    | succ m2 ih =>
      intro i fu rows o σ1 hno hm hi hfu hrl ho hr1 hs1 hr2 he1 he2
      have t1 := h.fr ho (by decide) (by decide)
      have q2 := hw.fr ho (by decide) (by decide)
      have ll := ev_X11_longestSign t1 q2 hi
      have hbd := mt_long_bd (mt_sg R m) (xs.drop i)
      have e26 : (am_si σ1 0 26 (i : Int)).1 0 26 = (i : Int) := by simp [am_si]
      have q3 : (am_si σ1 0 26 (i : Int)).1 0 21 = (xs.length : Int) := q2.1
      by_cases hlt : i < xs.length
      · obtain ⟨f2, rfl⟩ : ∃ f2, fu = f2 + 1 := ⟨fu - 1, by omega⟩
        have hne : xs.drop i ≠ [] := fun z => by have := congrArg List.length z; rw [List.length_drop] at this; simp at this; omega
        rw [mt_dec_st, if_neg hne] at he1 he2
        refine go_iload_n dX11_layBack_12 rfl ?_
        refine go_aload_n dX11_layBack_13 rfl ?_
        refine go_geti fl_X11_167 dX11_layBack_14 sh_0 rfl ?_
        first | (rw [q2.1]) | (rw [hs1]) | (rw [hr1]) | skip
        refine go_icmp_ge (tgt := 78) dX11_layBack_17 (by decide) (by unfold inR; omega) (by unfold inR; omega) (fun b17 => ?_) (fun b17 => ?_)
        · skip
          omega
        · skip
          refine go_aload_n dX11_layBack_20 rfl ?_
          refine go_geti fl_X11_177 dX11_layBack_21 sh_0 rfl ?_
          first | (rw [q2.1]) | (rw [hs1]) | (rw [hr1]) | skip
          refine go_iconst dX11_layBack_24 ?_
          refine go_icmp_ne (tgt := 78) dX11_layBack_25 (by decide) (by unfold inR; omega) (by unfold inR; omega) (fun b25 => ?_) (fun b25 => ?_)
          · skip
            exact absurd rfl b25
          · skip
            refine go_aload_n dX11_layBack_28 rfl ?_
            refine go_iload_n dX11_layBack_29 rfl ?_
            refine go_cvP1 (M2 := mX11_longestSign) dX11_layBack_30 ml_X11_180 mv_X11_longestSign sh_0 rfl rfl (Nat.le_of_ble_eq_true rfl) (by decide) (ll) ?_
            refine go_ist2 dX11_layBack_33 (Nat.le_of_ble_eq_true rfl) rfl ?_
            refine go_iload_n dX11_layBack_34 rfl ?_
            refine go_iconst dX11_layBack_35 ?_
            refine go_icmp_ne (tgt := 47) dX11_layBack_36 (by decide) (by unfold inR; omega) (by unfold inR; omega) (fun b36 => ?_) (fun b36 => ?_)
            · skip
              rw [if_neg b36] at he1 he2
              have hfit := mt_long_fit (mt_sg R m) (xs.drop i) b36
              have hpre := (mt_long_pre (mt_sg R m) (xs.drop i) b36).2
              rw [List.length_drop] at hfit
              have hb2 := hbd.resolve_left b36
              obtain ⟨r, hr⟩ : ∃ r : Nat, mt_long (mt_sg R m) (xs.drop i) = (r : Int) := ⟨(mt_long (mt_sg R m) (xs.drop i)).toNat, by omega⟩
              rw [hr] at he1 he2 hfit hpre hb2 ⊢
              rw [Int.toNat_natCast] at he1 he2 hfit hpre
              refine go_aload_n dX11_layBack_47 rfl ?_
              refine go_getr fl_X11_52 dX11_layBack_48 sh_0 rfl ?_
              refine go_aload_n dX11_layBack_51 rfl ?_
              refine go_geti fl_X11_174 dX11_layBack_52 sh_0 rfl ?_
              first | (rw [q2.1]) | (rw [hs1]) | (rw [hr1]) | skip
              refine go_iload_n dX11_layBack_55 rfl ?_
              refine go_iastore dX11_layBack_56 (by first | assumption | rfl) (by first | assumption | exact Nat.le_of_ble_eq_true rfl) (by omega) (by omega) ?_
              refine go_aload_n dX11_layBack_57 rfl ?_
              refine go_dup dX11_layBack_58 rfl ?_
              refine go_geti fl_X11_174 dX11_layBack_59 sh_0 rfl ?_
              first | (rw [q2.1]) | (rw [hs1]) | (rw [hr1]) | skip
              rw [show (am_sa σ1 15 (rows.length : Int) (r : Int)).1 0 25 = (rows.length : Int) from hr1]
              refine go_iconst dX11_layBack_62 ?_
              refine go_iadd dX11_layBack_63 ?_
              refine go_puti fl_X11_174 dX11_layBack_64 sh_0 rfl am_fit_int ?_
              refine go_iload_n dX11_layBack_67 rfl ?_
              refine go_aload_n dX11_layBack_68 rfl ?_
              refine go_iload_n dX11_layBack_69 rfl ?_
              refine go_cvP1 (M2 := mX11_signLength) dX11_layBack_70 ml_X11_137 mv_X11_signLength sh_0 rfl rfl (Nat.le_of_ble_eq_true rfl) (by decide) (ev_X11_signLength (t1.fr (fs := [25]) (as := [15]) ((fr_sa (k := 15) (by decide)).tr (fr_si (by decide))) (by decide) (by decide)) (by omega)) ?_
              refine go_iadd dX11_layBack_73 ?_
              refine go_ist1 dX11_layBack_74 (Nat.le_of_ble_eq_true rfl) rfl ?_
              refine go_goto (tgt := 12) dX11_layBack_75 (by decide) ?_
              refine ih (i + ((mt_sg R m).getD r []).length) f2 (rows ++ [(r : Int)]) _ _ rfl (by omega) (by omega) (by omega) (by rw [List.length_append, List.length_singleton]; omega) ((ho.tr (fr_sa (by decide))).tr (fr_si (by decide))) (by simp [am_si]) (by simp only [am_si, am_sa]; simpa using hs1) (arA_snoc hr2) ?_ ?_
              · rw [← he1, List.append_assoc, List.drop_drop]; push_cast; rfl
              · rw [← he2, List.drop_drop]; push_cast; rfl
            · skip
              rw [if_pos b36] at he1 he2
              simp only [List.append_nil] at he1 he2
              refine go_aload_n dX11_layBack_39 rfl ?_
              refine go_iload_n dX11_layBack_40 rfl ?_
              refine go_puti fl_X11_177 dX11_layBack_41 sh_0 rfl am_fit_int ?_
              refine go_goto (tgt := 75) dX11_layBack_44 (by decide) ?_
              exact lbk_end (by omega) (by omega) q3 e26 ⟨by rw [← he1]; exact hr1, by rw [← he2, if_pos (by omega)]; exact e26, by rw [← he1]; exact hr2⟩ (ho.tr (fr_si (by decide)))
      · rw [List.drop_eq_nil_of_le (by omega), mt_dec_nil] at he1 he2
        simp only [List.append_nil] at he1 he2
        refine go_iload_n dX11_layBack_12 rfl ?_
        refine go_aload_n dX11_layBack_13 rfl ?_
        refine go_geti fl_X11_167 dX11_layBack_14 sh_0 rfl ?_
        first | (rw [q2.1]) | skip
        refine go_icmp_ge (tgt := 78) dX11_layBack_17 (by decide) (by unfold inR; omega) (by unfold inR; omega) (fun b17 => ?_) (fun b17 => ?_)
        · skip
          refine go_retV dX11_layBack_78 rfl ?_
          exact ⟨⟨by rw [← he1]; exact hr1, by rw [← he2, if_neg (by omega)]; exact hs1, by rw [← he1]; exact hr2⟩, ho⟩
        · skip
          omega
  refine am_ev (by decide) [some (.ref 0), none, none] rfl (Nat.le_of_ble_eq_true rfl) ?_
  refine go_aload_n dX11_layBack_0 rfl ?_
  refine go_iconst dX11_layBack_1 ?_
  refine go_puti fl_X11_174 dX11_layBack_2 sh_0 rfl am_fit_int ?_
  refine go_aload_n dX11_layBack_5 rfl ?_
  refine go_iconst dX11_layBack_6 ?_
  refine go_puti fl_X11_177 dX11_layBack_7 sh_0 rfl am_fit_int ?_
  refine go_iconst dX11_layBack_10 ?_
  refine go_ist1 dX11_layBack_11 (Nat.le_of_ble_eq_true rfl) rfl ?_
  exact loop (xs.length + 1) 0 xs.length [] none _ rfl (by omega) (by omega) (by omega) (by simp) ((fr_si (by decide)).tr (fr_si (by decide))) (by simp [am_si]) (by simp [am_si]) arA_nil (by simp only [List.nil_append, List.drop_zero]; exact congrArg Prod.fst hT) (by simp only [List.drop_zero]; exact congrArg Prod.snd hT)
