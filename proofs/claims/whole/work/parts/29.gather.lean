/-! ===== Remainders: start, gather, wouldBeClean ===== -/
theorem ev_X5_start {σ : am_St} {k ks n : Nat} {S : List (List Int)} {ys : List Int} (hk : SH[k]? = some (.inr (4, [k + 4, 0]))) (h : hold σ (k + 1) 25 ys) (g : hold σ ks n (S.map enc)) (hS : okS S) (d : ks ≠ k ∧ ks ≠ k + 1 ∧ ks ≠ k + 2 ∧ ks + 1 ≠ k ∧ ks + 1 ≠ k + 2) : am_Ev SH mX5_start 2 [.ref k, .ref ks] σ (am_rV (fun σ2 => ∃ ws2, rmd σ2 k ws2 ∧ rmL S ws2 ∧ (∀ w, rm_st S w → w ∈ ws2) ∧ am_off [k, k + 1, k + 2] σ σ2)) := by
  have hks := g.1
  have h8 := hS.2.2
  have inner : ∀ (a : Nat) (ha : a < S.length) (m : Nat) (i : Nat) (ws1 : List (List Int)) (σ1 : am_St) (w5 : Option Value), S.length - i < m → i ≤ S.length → rmd σ1 k ws1 → rmL S ws1 → am_off [k, k + 1, k + 2] σ σ1 → (∀ a' j (h1 : a' < S.length) (h2 : j < S.length), (a' < a ∨ (a' = a ∧ j < i)) → a' ≠ j → S[a'] <+: S[j] → S[j].drop S[a'].length ∈ ws1) → (∀ (ws2 : List (List Int)) (σ2 : am_St) (w4 w5 : Option Value), rmd σ2 k ws2 → rmL S ws2 → am_off [k, k + 1, k + 2] σ σ2 → (∀ a' j (h1 : a' < S.length) (h2 : j < S.length), a' < a + 1 → a' ≠ j → S[a'] <+: S[j] → S[j].drop S[a'].length ∈ ws2) → am_Go SH mX5_start 2 (am_rV (fun σ2 => ∃ ws2, rmd σ2 k ws2 ∧ rmL S ws2 ∧ (∀ w, rm_st S w → w ∈ ws2) ∧ am_off [k, k + 1, k + 2] σ σ2)) 79 [some (.ref k), some (.ref ks), some (.int (iZ a)), some (.int (iZ (enc S[a]))), w4, w5] [] σ2) → am_Go SH mX5_start 2 (am_rV (fun σ2 => ∃ ws2, rmd σ2 k ws2 ∧ rmL S ws2 ∧ (∀ w, rm_st S w → w ∈ ws2) ∧ am_off [k, k + 1, k + 2] σ σ2)) 31 [some (.ref k), some (.ref ks), some (.int (iZ a)), some (.int (iZ (enc S[a]))), some (.int (iZ i)), w5] [] σ1 := by
    intro a ha m
    obtain ⟨p0, p1, p2, p3, p4⟩ := get_ok hS ha
    induction m with
    | zero => intro i ws1 σ1 w5 hm; exact absurd hm (by omega)
    | succ m ih =>
      intro i ws1 σ1 w5 hm hi hr hl ho hin kk
      have g' := g.off ho (by simp; omega) (by simp; omega)
      by_cases hlt : i < S.length
      · obtain ⟨q0, q1, q2, q3, q4⟩ := get_ok hS hlt
        have b1 := wd_be_enc q2 p2 q3 p3
        refine go_iload dX5_start_31 rfl ?_
        refine go_aload_n dX5_start_33 rfl ?_
        refine go_cvP0 (M2 := mX1_size) dX5_start_34 ml_X5_28 mv_X1_size hks rfl rfl (Nat.le_of_ble_eq_true rfl) (by decide) (ev_X1_size g') ?_
        rw [List.length_map]
        refine go_icmp_ge (tgt := 79) dX5_start_37 (by decide) (by unfold inR; omega) (by unfold inR; omega) (fun b37 => ?_) (fun b37 => ?_)
        · skip
          exact absurd b37 (by omega)
        · skip
          refine go_aload_n dX5_start_40 rfl ?_
          refine go_iload dX5_start_41 rfl ?_
          refine go_cvP1 (M2 := mX1_at) dX5_start_43 ml_X5_32 mv_X1_at hks rfl rfl (Nat.le_of_ble_eq_true rfl) (by decide) (ev_X1_at g' (by unfold inR; omega)) ?_
          rw [ln_at_map (by omega) (by omega), Int.toNat_natCast, q0]
          refine go_ist5 dX5_start_46 (Nat.le_of_ble_eq_true rfl) rfl ?_
          refine go_iload_n dX5_start_48 rfl ?_
          refine go_iload dX5_start_49 rfl ?_
          refine go_icmp_eq (tgt := 73) dX5_start_51 (by decide) (by unfold inR; omega) (by unfold inR; omega) (fun b51 => ?_) (fun b51 => ?_)
          · skip
            refine go_inc4 dX5_start_73 (Nat.le_of_ble_eq_true rfl) rfl ?_
            refine go_goto (tgt := 31) dX5_start_76 (by decide) ?_
            rw [show (i : Int) + 1 = ((i + 1 : Nat) : Int) by omega]
            first
              | exact ih (i + 1) _ _ _ (by omega) (by omega) hq.1 (hl.add hR) (ho.tr hq.2) (fun a' j z1 z2 z3 z4 z5 => by
                  by_cases hje : a' = a ∧ j = i
                  · obtain ⟨e1, e2⟩ := hje; subst e1; subst e2; exact rm_add_mem _ _
                  · exact (rm_add_pre _ _).subset (hin a' j z1 z2 (by omega) z4 z5)) kk
              | exact ih (i + 1) _ _ _ (by omega) (by omega) hr hl ho (fun a' j z1 z2 z3 z4 z5 => by
                  by_cases hje : a' = a ∧ j = i
                  · obtain ⟨e1, e2⟩ := hje; subst e1; subst e2; first | exact absurd z5 np | omega
                  · exact hin a' j z1 z2 (by omega) z4 z5) kk
          · skip
            refine go_iload dX5_start_54 rfl ?_
            refine go_iload_n dX5_start_56 rfl ?_
            refine go_csP2 (M2 := mX9_begins) dX5_start_57 ml_X5_46 ms_X9_begins (Nat.le_of_ble_eq_true rfl) (by decide) (ev_X9_begins (enc_inR q2 q3) (enc_inR p2 p3)) ?_
            rw [b1]
            refine go_if_eq (tgt := 73) dX5_start_60 (by decide) (by unfold inR; split <;> omega) (fun b60 => ?_) (fun b60 => ?_)
            · skip
              have np : ¬ S[a] <+: S[i] := fun z => by rw [if_pos z] at b60; omega
              refine go_inc4 dX5_start_73 (Nat.le_of_ble_eq_true rfl) rfl ?_
              refine go_goto (tgt := 31) dX5_start_76 (by decide) ?_
              rw [show (i : Int) + 1 = ((i + 1 : Nat) : Int) by omega]
              first
                | exact ih (i + 1) _ _ _ (by omega) (by omega) hq.1 (hl.add hR) (ho.tr hq.2) (fun a' j z1 z2 z3 z4 z5 => by
                    by_cases hje : a' = a ∧ j = i
                    · obtain ⟨e1, e2⟩ := hje; subst e1; subst e2; exact rm_add_mem _ _
                    · exact (rm_add_pre _ _).subset (hin a' j z1 z2 (by omega) z4 z5)) kk
                | exact ih (i + 1) _ _ _ (by omega) (by omega) hr hl ho (fun a' j z1 z2 z3 z4 z5 => by
                    by_cases hje : a' = a ∧ j = i
                    · obtain ⟨e1, e2⟩ := hje; subst e1; subst e2; first | exact absurd z5 np | omega
                    · exact hin a' j z1 z2 (by omega) z4 z5) kk
            · skip
              have hp : S[a] <+: S[i] := by
                apply Classical.byContradiction
                intro z
                rw [if_neg z] at b60
                omega
              have hR : Rem S (S[i].drop S[a].length) := Rem.st ⟨a, i, S[a], S[i], by omega, List.getElem?_eq_getElem ha, List.getElem?_eq_getElem hlt, hp, rfl⟩
              refine go_aload_n dX5_start_63 rfl ?_
              refine go_iload dX5_start_64 rfl ?_
              refine go_iload_n dX5_start_66 rfl ?_
              refine go_csP2 (M2 := mX9_behind) dX5_start_67 ml_X5_52 ms_X9_behind (Nat.le_of_ble_eq_true rfl) (by decide) (ev_X9_behind (enc_inR q2 q3) (enc_inR p2 p3)) ?_
              rw [wd_hi_enc q2 p2 q3 p3 hp]
              refine go_cvV1 (M2 := mX5_note) dX5_start_70 ml_X5_56 mv_X5_note hk rfl rfl (Nat.le_of_ble_eq_true rfl) (by decide) (ev_X5_note hk hr (q2.drop _) (by rw [List.length_drop]; omega) (hl.cap hS hR)) (fun σ2 hq => ?_)
              refine go_inc4 dX5_start_73 (Nat.le_of_ble_eq_true rfl) rfl ?_
              refine go_goto (tgt := 31) dX5_start_76 (by decide) ?_
              rw [show (i : Int) + 1 = ((i + 1 : Nat) : Int) by omega]
              first
                | exact ih (i + 1) _ _ _ (by omega) (by omega) hq.1 (hl.add hR) (ho.tr hq.2) (fun a' j z1 z2 z3 z4 z5 => by
                    by_cases hje : a' = a ∧ j = i
                    · obtain ⟨e1, e2⟩ := hje; subst e1; subst e2; exact rm_add_mem _ _
                    · exact (rm_add_pre _ _).subset (hin a' j z1 z2 (by omega) z4 z5)) kk
                | exact ih (i + 1) _ _ _ (by omega) (by omega) hr hl ho (fun a' j z1 z2 z3 z4 z5 => by
                    by_cases hje : a' = a ∧ j = i
                    · obtain ⟨e1, e2⟩ := hje; subst e1; subst e2; first | exact absurd z5 np | omega
                    · exact hin a' j z1 z2 (by omega) z4 z5) kk
      · skip
        refine go_iload dX5_start_31 rfl ?_
        refine go_aload_n dX5_start_33 rfl ?_
        refine go_cvP0 (M2 := mX1_size) dX5_start_34 ml_X5_28 mv_X1_size hks rfl rfl (Nat.le_of_ble_eq_true rfl) (by decide) (ev_X1_size g') ?_
        rw [List.length_map]
        refine go_icmp_ge (tgt := 79) dX5_start_37 (by decide) (by unfold inR; omega) (by unfold inR; omega) (fun b37 => ?_) (fun b37 => ?_)
        · skip
          exact kk _ _ _ _ hr hl ho (fun a' j z1 z2 z3 z4 z5 => hin a' j z1 z2 (by omega) z4 z5)
        · skip
          exact absurd b37 (by omega)
  have outer : ∀ (m : Nat) (a : Nat) (ws1 : List (List Int)) (σ1 : am_St) (w3 w4 w5 : Option Value), S.length - a < m → a ≤ S.length → rmd σ1 k ws1 → rmL S ws1 → am_off [k, k + 1, k + 2] σ σ1 → (∀ a' j (h1 : a' < S.length) (h2 : j < S.length), a' < a → a' ≠ j → S[a'] <+: S[j] → S[j].drop S[a'].length ∈ ws1) → am_nl w3 = true → am_nl w4 = true → am_Go SH mX5_start 2 (am_rV (fun σ2 => ∃ ws2, rmd σ2 k ws2 ∧ rmL S ws2 ∧ (∀ w, rm_st S w → w ∈ ws2) ∧ am_off [k, k + 1, k + 2] σ σ2)) 14 [some (.ref k), some (.ref ks), some (.int (iZ a)), w3, w4, w5] [] σ1 := by
    intro m
    induction m with
    | zero => intro a ws1 σ1 w3 w4 w5 hm; exact absurd hm (by omega)
    | succ m ih =>
      intro a ws1 σ1 w3 w4 w5 hm ha hr hl ho hin hw3 hw4
      have g' := g.off ho (by simp; omega) (by simp; omega)
      by_cases hlt : a < S.length
      · obtain ⟨q0, q1, q2, q3, q4⟩ := get_ok hS hlt
        refine go_iload_n dX5_start_14 rfl ?_
        refine go_aload_n dX5_start_15 rfl ?_
        refine go_cvP0 (M2 := mX1_size) dX5_start_16 ml_X5_28 mv_X1_size hks rfl rfl (Nat.le_of_ble_eq_true rfl) (by decide) (ev_X1_size g') ?_
        rw [List.length_map]
        refine go_icmp_ge (tgt := 85) dX5_start_19 (by decide) (by unfold inR; omega) (by unfold inR; omega) (fun b19 => ?_) (fun b19 => ?_)
        · skip
          exact absurd b19 (by omega)
        · skip
          refine go_aload_n dX5_start_22 rfl ?_
          refine go_iload_n dX5_start_23 rfl ?_
          refine go_cvP1 (M2 := mX1_at) dX5_start_24 ml_X5_32 mv_X1_at hks rfl rfl (Nat.le_of_ble_eq_true rfl) (by decide) (ev_X1_at g' (by unfold inR; omega)) ?_
          rw [ln_at_map (by omega) (by omega), Int.toNat_natCast, q0]
          refine go_ist3 dX5_start_27 (Nat.le_of_ble_eq_true rfl) rfl ?_
          refine go_iconst dX5_start_28 ?_
          refine go_ist4 dX5_start_29 (Nat.le_of_ble_eq_true rfl) rfl ?_
          refine inner a hlt (S.length + 1) 0 ws1 σ1 _ (by omega) (by omega) hr hl ho (fun a' j z1 z2 z3 z4 z5 => hin a' j z1 z2 (by omega) z4 z5) (fun ws2 σ2 v4 v5 a1 a2 a3 a4 => ?_)
          refine go_inc2 dX5_start_79 (Nat.le_of_ble_eq_true rfl) rfl ?_
          refine go_goto (tgt := 14) dX5_start_82 (by decide) ?_
          rw [show (a : Int) + 1 = ((a + 1 : Nat) : Int) by omega]
          refine go_weak (lv' := [some (.ref k), some (.ref ks), some (.int (iZ ((a + 1 : Nat) : Int))), none, none, none]) (fun i v hv => ?_) (ih (a + 1) ws2 σ2 none none none (by omega) (by omega) a1 a2 a3 a4 rfl rfl)
          rcases i with _ | _ | _ | _ | _ | _ | i <;> simp at hv ⊢ <;> exact hv
      · skip
        refine go_iload_n dX5_start_14 rfl ?_
        refine go_aload_n dX5_start_15 rfl ?_
        refine go_cvP0 (M2 := mX1_size) dX5_start_16 ml_X5_28 mv_X1_size hks rfl rfl (Nat.le_of_ble_eq_true rfl) (by decide) (ev_X1_size g') ?_
        rw [List.length_map]
        refine go_icmp_ge (tgt := 85) dX5_start_19 (by decide) (by unfold inR; omega) (by unfold inR; omega) (fun b19 => ?_) (fun b19 => ?_)
        · skip
          refine go_retV dX5_start_85 rfl ?_
          refine ⟨ws1, hr, hl, fun w hw => ?_, ho⟩
          obtain ⟨i, j, x, y, z1, z2, z3, z4, rfl⟩ := hw
          obtain ⟨zi, ei⟩ := List.getElem?_eq_some_iff.mp z2
          obtain ⟨zj, ej⟩ := List.getElem?_eq_some_iff.mp z3
          have := hin i j zi zj (by omega) z1 (by rw [ei, ej]; exact z4)
          rwa [ei, ej] at this
        · skip
          exact absurd b19 (by omega)
  refine am_ev (by decide) [some (.ref k), some (.ref ks), none, none, none, none] rfl (Nat.le_of_ble_eq_true rfl) ?_
  refine go_aload_n dX5_start_0 rfl ?_
  refine go_getr fl_X5_14 dX5_start_1 hk rfl ?_
  refine go_cvV0 (M2 := mX1_clear) dX5_start_4 ml_X5_43 mv_X1_clear h.1 rfl rfl (Nat.le_of_ble_eq_true rfl) (by decide) (ev_X1_clear h) (fun σ1 hq => ?_)
  refine go_aload_n dX5_start_7 rfl ?_
  refine go_iconst dX5_start_8 ?_
  refine go_puti fl_X5_20 dX5_start_9 hk rfl (am_fit_bool (by omega)) ?_
  refine go_iconst dX5_start_12 ?_
  refine go_ist2 dX5_start_13 (Nat.le_of_ble_eq_true rfl) rfl ?_
  refine outer (S.length + 1) 0 [] _ none none none (by omega) (by omega) ⟨hold_si hq.1 (by omega) (by omega), by simp [am_si], fun w hw => by simp at hw⟩ ⟨List.nodup_nil, fun w hw => by simp at hw⟩ ((hq.2.wk (by simp)).tr (am_off_si (by simp))) (fun a' j z1 z2 z3 => absurd z3 (by omega)) rfl rfl
