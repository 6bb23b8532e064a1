/-! ===== the reference: draw, drawRow, isSameRow, trialNow, trial ===== -/
theorem ev_X11_draw {σ : am_St} {n : Int} (h0 : 0 ≤ σ.2.1 0 36) (h1 : σ.2.1 0 36 < 2147483648) (hn : 0 < n) (hn2 : n < 1000) : am_Ev SH mX11_draw 0 [.ref 0, .int (iZ n)] σ (am_rI (fun x σ2 => x = tr_dr (tr_nx (σ.2.1 0 36)) n ∧ σ2 = am_sl σ 0 36 (tr_nx (σ.2.1 0 36)))) := by
  have hb := tr_nx_bd (σ.2.1 0 36)
  have e1 : (am_sl σ 0 36 (tr_nx (σ.2.1 0 36))).2.1 0 36 = tr_nx (σ.2.1 0 36) := by simp [am_sl]
  refine am_ev (by decide) [some (.ref 0), some (.int (iZ (n)))] rfl (Nat.le_of_ble_eq_true rfl) ?_
  refine go_aload_n dX11_draw_0 rfl ?_
  refine go_ldc2 dX11_draw_1 kc_X11_312 ?_
  refine go_aload_n dX11_draw_4 rfl ?_
  refine go_getl fl_X11_314 dX11_draw_5 sh_0 rfl ?_
  refine go_lmul dX11_draw_8 ?_
  refine go_ldc2 dX11_draw_9 kc_X11_318 ?_
  refine go_ladd dX11_draw_12 ?_
  refine go_ldc2 dX11_draw_13 kc_X11_320 ?_
  refine go_lrem dX11_draw_16 (by omega) (by unfold inL; omega) (by omega) (by unfold inL; omega) ?_
  rw [show (1103515245 * σ.2.1 0 36 + 12345) % 2147483648 = tr_nx (σ.2.1 0 36) from rfl]
  refine go_putl fl_X11_314 dX11_draw_17 sh_0 rfl am_fit_long ?_
  refine go_aload_n dX11_draw_20 rfl ?_
  refine go_getl fl_X11_314 dX11_draw_21 sh_0 rfl ?_
  rw [e1]
  refine go_ldc2 dX11_draw_24 kc_X11_322 ?_
  refine go_ldiv dX11_draw_27 (by omega) (by unfold inL; omega) (by omega) (by unfold inL; omega) ?_
  refine go_iload_n dX11_draw_28 rfl ?_
  refine go_i2l dX11_draw_29 (by unfold inR; omega) ?_
  refine go_lrem dX11_draw_30 (by omega) (by unfold inL; omega) (by omega) (by unfold inL; omega) ?_
  refine go_l2i dX11_draw_31 ?_
  refine go_retI dX11_draw_32 rfl ?_
  exact ⟨rfl, rfl⟩
theorem mt_spell_snoc (S : List (List Int)) (rs : List Int) (d : Nat) : mt_spell S (rs ++ [(d : Int)]) = mt_spell S rs ++ S.getD d [] := by
  unfold mt_spell
  rw [List.flatMap_append]
  simp
/-- the drawn row -/
def rwM (σ : am_St) (row : List Int) : Prop := σ.1 0 19 = (row.length : Int) ∧ arA σ 11 row
theorem rwM.fr {σ σ' : am_St} {row : List Int} {fs as : List Nat} (h : rwM σ row) (ho : fr fs as σ σ') (h1 : 19 ∉ fs) (h2 : 11 ∉ as) : rwM σ' row := ⟨by rw [ho.f 19 h1]; exact h.1, h.2.fr ho h2⟩
theorem ev_X11_drawRow {σ : am_St} {L R : List (List Int)} {m : Nat} (h : tbM σ L R m) (hR : 0 < R.length) (h0 : 0 ≤ σ.2.1 0 36) (h1 : σ.2.1 0 36 < 2147483648) : am_Ev SH mX11_drawRow 1 [.ref 0] σ (am_rV (fun σ2 => rwM σ2 (tr_row (tr_len (σ.2.1 0 36)) (tr_nx (σ.2.1 0 36)) (R.length : Int)).1 ∧ wkM σ2 (mt_spell (mt_sg R m) (tr_row (tr_len (σ.2.1 0 36)) (tr_nx (σ.2.1 0 36)) (R.length : Int)).1) ∧ σ2.2.1 0 36 = (tr_row (tr_len (σ.2.1 0 36)) (tr_nx (σ.2.1 0 36)) (R.length : Int)).2 ∧ fr [19, 21, 36] [11, 12] σ σ2)) := by
  have hS : okS (mt_sg R m) := okS_sg h.2.2.2.2.2.2.2.2 h.2.2.2.2.2.1 m
  have h8 := h.S8
  have hlen := tr_len_bd (σ.2.1 0 36)
  generalize hN : tr_len (σ.2.1 0 36) = N at *
  generalize hT : tr_row N (tr_nx (σ.2.1 0 36)) (R.length : Int) = T
  generalize hQ : (am_rV (fun σ2 => rwM σ2 T.1 ∧ wkM σ2 (mt_spell (mt_sg R m) T.1) ∧ σ2.2.1 0 36 = T.2 ∧ fr [19, 21, 36] [11, 12] σ σ2)) = Q
  have loop : ∀ (m2 : Nat) (k : Nat) (row : List Int) (o2 : Option Value) (σ1 : am_St), N - k < m2 → k ≤ N → row.length = k → arA σ1 11 row → wkM σ1 (mt_spell (mt_sg R m) row) → σ1.1 0 19 = (N : Int) → 0 ≤ σ1.2.1 0 36 → σ1.2.1 0 36 < 2147483648 → row ++ (tr_row (N - k) (σ1.2.1 0 36) (R.length : Int)).1 = T.1 → (tr_row (N - k) (σ1.2.1 0 36) (R.length : Int)).2 = T.2 → fr [19, 21, 36] [11, 12] σ σ1 → am_Go SH mX11_drawRow 1 Q 18 [some (.ref 0), some (.int (iZ (k : Int))), o2] [] σ1 := by
    intro m2
    induction m2 with
    | zero => intro k row o2 σ1 hm; exact absurd hm (by omega)
    | succ m2 ih =>
      intro k row o2 σ1 hm hk hrow h11 hwk e19 g0 g1 e1 e2 ho
      have t1 := h.fr ho (by decide) (by decide)
      by_cases hlt : k < N
      · have hd := tr_dr_bd (x := tr_nx (σ1.2.1 0 36)) (n := (R.length : Int)) (by omega)
        have hb := tr_nx_bd (σ1.2.1 0 36)
        obtain ⟨f, hf⟩ : ∃ f, N - k = f + 1 := ⟨N - k - 1, by omega⟩
        rw [hf] at e1 e2
        have e1' : row ++ (tr_dr (tr_nx (σ1.2.1 0 36)) (R.length : Int) :: (tr_row f (tr_nx (σ1.2.1 0 36)) (R.length : Int)).1) = T.1 := e1
        have e2' : (tr_row f (tr_nx (σ1.2.1 0 36)) (R.length : Int)).2 = T.2 := e2
        obtain ⟨d, hdd⟩ := Int.eq_ofNat_of_zero_le hd.1
        rw [hdd] at e1' hd
        have hdl : d < R.length := by omega
        have l4 := (h.sg d).2
        have okd : okl ((mt_sg R m).getD d []) := (h.sg d).1
        have inner : ∀ (m3 : Nat) (i : Nat) (σ3 : am_St), ((mt_sg R m).getD d []).length - i < m3 → i ≤ ((mt_sg R m).getD d []).length → arA σ3 11 (row ++ [(d : Int)]) → wkM σ3 (mt_spell (mt_sg R m) row ++ ((mt_sg R m).getD d []).take i) → σ3.1 0 19 = (N : Int) → σ3.2.1 0 36 = tr_nx (σ1.2.1 0 36) → fr [19, 21, 36] [11, 12] σ σ3 → am_Go SH mX11_drawRow 1 Q 42 [some (.ref 0), some (.int (iZ (k : Int))), some (.int (iZ (i : Int)))] [] σ3 := by
          intro m3
          induction m3 with
          | zero => intro i σ3 hm3; exact absurd hm3 (by omega)
          | succ m3 ih3 =>
            intro i σ3 hm3 hi a11 hw3 e193 e36 ho3
            have t3 := h.fr ho3 (by decide) (by decide)
            have c11 : σ3.2.2 11 (k : Int) = (d : Int) := by
              rw [a11 k (by rw [List.length_append, List.length_singleton]; omega)]
              exact ln_at_get (by rw [← hrow]; simp)
            by_cases hlti : i < ((mt_sg R m).getD d []).length
            · have e21 := hw3.1
              have hwl : (mt_spell (mt_sg R m) row ++ ((mt_sg R m).getD d []).take i).length < 200 := by
                have := mt_spell_len hS.1 row
                rw [List.length_append, List.length_take]; omega
              generalize hW : mt_spell (mt_sg R m) row ++ ((mt_sg R m).getD d []).take i = W at *
              have e21' : (am_sa σ3 12 (W.length : Int) (ln_at ((mt_sg R m).getD d []) (i : Int))).1 0 21 = (W.length : Int) := e21
              have hW2 : mt_spell (mt_sg R m) row ++ ((mt_sg R m).getD d []).take (i + 1) = W ++ [ln_at ((mt_sg R m).getD d []) (i : Int)] := by rw [take_snoc hlti, ← List.append_assoc, hW]
              have oo : fr [21] [12] σ3 (am_si (am_sa σ3 12 (W.length : Int) (ln_at ((mt_sg R m).getD d []) (i : Int))) 0 21 ((W.length : Int) + 1)) := (fr_sa (by decide)).tr (fr_si (by decide))
              have aW : arA (am_si (am_sa σ3 12 (W.length : Int) (ln_at ((mt_sg R m).getD d []) (i : Int))) 0 21 ((W.length : Int) + 1)) 12 (W ++ [ln_at ((mt_sg R m).getD d []) (i : Int)]) := arA_snoc hw3.2.1
              refine go_iload_n dX11_drawRow_42 rfl ?_
              refine go_aload_n dX11_drawRow_43 rfl ?_
              refine go_aload_n dX11_drawRow_44 rfl ?_
              refine go_getr fl_X11_40 dX11_drawRow_45 sh_0 rfl ?_
              refine go_iload_n dX11_drawRow_48 rfl ?_
              refine go_iaload dX11_drawRow_49 (by first | assumption | rfl) (by first | assumption | exact Nat.le_of_ble_eq_true rfl) (by omega) (by omega) ?_
              first | (rw [c11]) | (rw [e21]) | (rw [e21']) | skip
              refine go_cvP1 (M2 := mX11_signLength) dX11_drawRow_50 ml_X11_137 mv_X11_signLength sh_0 rfl rfl (Nat.le_of_ble_eq_true rfl) (by decide) (ev_X11_signLength t3 hdl) ?_
              refine go_icmp_ge (tgt := 92) dX11_drawRow_53 (by decide) (by unfold inR; omega) (by unfold inR; omega) (fun b53 => ?_) (fun b53 => ?_)
              · skip
                omega
              · skip
                refine go_aload_n dX11_drawRow_56 rfl ?_
                refine go_getr fl_X11_43 dX11_drawRow_57 sh_0 rfl ?_
                refine go_aload_n dX11_drawRow_60 rfl ?_
                refine go_geti fl_X11_167 dX11_drawRow_61 sh_0 rfl ?_
                first | (rw [c11]) | (rw [e21]) | (rw [e21']) | skip
                refine go_aload_n dX11_drawRow_64 rfl ?_
                refine go_aload_n dX11_drawRow_65 rfl ?_
                refine go_getr fl_X11_40 dX11_drawRow_66 sh_0 rfl ?_
                refine go_iload_n dX11_drawRow_69 rfl ?_
                refine go_iaload dX11_drawRow_70 (by first | assumption | rfl) (by first | assumption | exact Nat.le_of_ble_eq_true rfl) (by omega) (by omega) ?_
                first | (rw [c11]) | (rw [e21]) | (rw [e21']) | skip
                refine go_iload_n dX11_drawRow_71 rfl ?_
                refine go_cvP2 (M2 := mX11_signAt) dX11_drawRow_72 ml_X11_140 mv_X11_signAt sh_0 rfl rfl (Nat.le_of_ble_eq_true rfl) (by decide) (ev_X11_signAt t3 hdl hlti) ?_
                refine go_iastore dX11_drawRow_75 (by first | assumption | rfl) (by first | assumption | exact Nat.le_of_ble_eq_true rfl) (by omega) (by omega) ?_
                refine go_aload_n dX11_drawRow_76 rfl ?_
                refine go_dup dX11_drawRow_77 rfl ?_
                refine go_geti fl_X11_167 dX11_drawRow_78 sh_0 rfl ?_
                first | (rw [c11]) | (rw [e21]) | (rw [e21']) | skip
                refine go_iconst dX11_drawRow_81 ?_
                refine go_iadd dX11_drawRow_82 ?_
                refine go_puti fl_X11_167 dX11_drawRow_83 sh_0 rfl am_fit_int ?_
                refine go_inc2 dX11_drawRow_86 (Nat.le_of_ble_eq_true rfl) rfl ?_
                refine go_goto (tgt := 42) dX11_drawRow_89 (by decide) ?_
                refine ih3 (i + 1) _ (by omega) (by omega) (a11.fr oo (by decide)) ?_ (by rw [oo.f 19 (by decide)]; exact e193) ((oo.1 0 36 (Or.inr (by decide))).2.trans e36) (ho3.tr (oo.wk (by decide) (by decide)))
                rw [hW2]
                exact ⟨by simp [am_si], aW, okl_snoc hw3.2.2.1 (okl_at okd hlti), by rw [List.length_append, List.length_singleton]; omega⟩
            · have et : ((mt_sg R m).getD d []).take i = (mt_sg R m).getD d [] := List.take_of_length_le (by omega)
              rw [et, ← mt_spell_snoc] at hw3
              refine go_iload_n dX11_drawRow_42 rfl ?_
              refine go_aload_n dX11_drawRow_43 rfl ?_
              refine go_aload_n dX11_drawRow_44 rfl ?_
              refine go_getr fl_X11_40 dX11_drawRow_45 sh_0 rfl ?_
              refine go_iload_n dX11_drawRow_48 rfl ?_
              refine go_iaload dX11_drawRow_49 (by first | assumption | rfl) (by first | assumption | exact Nat.le_of_ble_eq_true rfl) (by omega) (by omega) ?_
              first | (rw [c11]) | skip
              refine go_cvP1 (M2 := mX11_signLength) dX11_drawRow_50 ml_X11_137 mv_X11_signLength sh_0 rfl rfl (Nat.le_of_ble_eq_true rfl) (by decide) (ev_X11_signLength t3 hdl) ?_
              refine go_icmp_ge (tgt := 92) dX11_drawRow_53 (by decide) (by unfold inR; omega) (by unfold inR; omega) (fun b53 => ?_) (fun b53 => ?_)
              · skip
                refine go_inc1 dX11_drawRow_92 (Nat.le_of_ble_eq_true rfl) rfl ?_
                refine go_goto (tgt := 18) dX11_drawRow_95 (by decide) ?_
                refine ih (k + 1) (row ++ [(d : Int)]) _ _ (by omega) (by omega) (by rw [List.length_append, List.length_singleton, hrow]) a11 hw3 e193 (by rw [e36]; exact hb.1) (by rw [e36]; exact hb.2) ?_ ?_ ho3
                · rw [e36, List.append_assoc, show N - (k + 1) = f by omega]; exact e1'
                · rw [e36, show N - (k + 1) = f by omega]; exact e2'
              · skip
                omega
        have o36 : fr [36] [] σ1 (am_sl σ1 0 36 (tr_nx (σ1.2.1 0 36))) := fr_sl (by decide)
        have o11 : fr [36] [11] σ1 (am_sa (am_sl σ1 0 36 (tr_nx (σ1.2.1 0 36))) 11 (k : Int) (d : Int)) := (o36.wk (by decide) (by decide)).tr (fr_sa (by decide))
        have a11' : arA (am_sa (am_sl σ1 0 36 (tr_nx (σ1.2.1 0 36))) 11 (k : Int) (d : Int)) 11 (row ++ [(d : Int)]) := by rw [← hrow]; exact arA_snoc (h11.fr o36 (by decide))
        refine go_iload_n dX11_drawRow_18 rfl ?_
        refine go_aload_n dX11_drawRow_19 rfl ?_
        refine go_geti fl_X11_124 dX11_drawRow_20 sh_0 rfl ?_
        first | (rw [e19]) | (rw [t1.1]) | skip
        refine go_icmp_ge (tgt := 98) dX11_drawRow_23 (by decide) (by unfold inR; omega) (by unfold inR; omega) (fun b23 => ?_) (fun b23 => ?_)
        · skip
          omega
        · skip
          refine go_aload_n dX11_drawRow_26 rfl ?_
          refine go_getr fl_X11_40 dX11_drawRow_27 sh_0 rfl ?_
          refine go_iload_n dX11_drawRow_30 rfl ?_
          refine go_aload_n dX11_drawRow_31 rfl ?_
          refine go_aload_n dX11_drawRow_32 rfl ?_
          refine go_geti fl_X11_109 dX11_drawRow_33 sh_0 rfl ?_
          first | (rw [e19]) | (rw [t1.1]) | skip
          refine go_cvI1 (M2 := mX11_draw) dX11_drawRow_36 ml_X11_324 mv_X11_draw sh_0 rfl rfl (Nat.le_of_ble_eq_true rfl) (by decide) (ev_X11_draw g0 g1 (by omega) (by omega)) (fun x σ2 hq => ?_)
          obtain ⟨rfl, rfl⟩ := hq
          rw [hdd]
          refine go_iastore dX11_drawRow_39 (by first | assumption | rfl) (by first | assumption | exact Nat.le_of_ble_eq_true rfl) (by omega) (by omega) ?_
          refine go_iconst dX11_drawRow_40 ?_
          refine go_ist2 dX11_drawRow_41 (Nat.le_of_ble_eq_true rfl) rfl ?_
          refine inner (((mt_sg R m).getD d []).length + 1) 0 _ (by omega) (by omega) a11' ?_ (by rw [o11.f 19 (by decide)]; exact e19) (by simp [am_sl, am_sa]) (ho.tr (o11.wk (by decide) (by decide)))
          rw [List.take_zero, List.append_nil]
          exact hwk.fr o11 (by decide) (by decide)
      · have ek : N - k = 0 := by omega
        rw [ek] at e1 e2
        have e1' : row ++ [] = T.1 := e1
        have e2' : σ1.2.1 0 36 = T.2 := e2
        rw [List.append_nil] at e1'
        rw [e1'] at h11 hwk hrow
        refine go_iload_n dX11_drawRow_18 rfl ?_
        refine go_aload_n dX11_drawRow_19 rfl ?_
        refine go_geti fl_X11_124 dX11_drawRow_20 sh_0 rfl ?_
        first | (rw [e19]) | skip
        refine go_icmp_ge (tgt := 98) dX11_drawRow_23 (by decide) (by unfold inR; omega) (by unfold inR; omega) (fun b23 => ?_) (fun b23 => ?_)
        · skip
          subst hQ
          refine go_retV dX11_drawRow_98 rfl ?_
          exact ⟨⟨by rw [e19, hrow]; omega, h11⟩, hwk, e2', ho⟩
        · skip
          omega
  have hb := tr_nx_bd (σ.2.1 0 36)
  have hd5 := tr_dr_bd (x := tr_nx (σ.2.1 0 36)) (n := 5) (by decide)
  have hNe : (1 : Int) + tr_dr (tr_nx (σ.2.1 0 36)) 5 = (N : Int) := by
    rw [← hN]; unfold tr_len; omega
  have oo : fr [19, 21, 36] [] σ (am_si (am_si (am_sl σ 0 36 (tr_nx (σ.2.1 0 36))) 0 19 (N : Int)) 0 21 0) := ((fr_sl (by decide)).tr (fr_si (by decide))).tr (fr_si (by decide))
  refine am_ev (by decide) [some (.ref 0), none, none] rfl (Nat.le_of_ble_eq_true rfl) ?_
  refine go_aload_n dX11_drawRow_0 rfl ?_
  refine go_iconst dX11_drawRow_1 ?_
  refine go_aload_n dX11_drawRow_2 rfl ?_
  refine go_iconst dX11_drawRow_3 ?_
  refine go_cvI1 (M2 := mX11_draw) dX11_drawRow_4 ml_X11_324 mv_X11_draw sh_0 rfl rfl (Nat.le_of_ble_eq_true rfl) (by decide) (ev_X11_draw h0 h1 (by decide) (by decide)) (fun x σ2 hq => ?_)
  obtain ⟨rfl, rfl⟩ := hq
  refine go_iadd dX11_drawRow_7 ?_
  rw [hNe]
  refine go_puti fl_X11_124 dX11_drawRow_8 sh_0 rfl am_fit_int ?_
  refine go_aload_n dX11_drawRow_11 rfl ?_
  refine go_iconst dX11_drawRow_12 ?_
  refine go_puti fl_X11_167 dX11_drawRow_13 sh_0 rfl am_fit_int ?_
  refine go_iconst dX11_drawRow_16 ?_
  refine go_ist1 dX11_drawRow_17 (Nat.le_of_ble_eq_true rfl) rfl ?_
  refine loop (N + 1) 0 [] _ _ (by omega) (by omega) rfl (fun j hj => absurd hj (by simp)) ⟨by simp [am_si, mt_spell], (fun j hj => absurd hj (by simp [mt_spell])), (fun c hc => by simp [mt_spell] at hc), by simp [mt_spell]⟩ (by simp [am_si]) ?_ ?_ ?_ ?_ (oo.wk (by decide) (by decide))
  all_goals rw [show (am_si (am_si (am_sl σ 0 36 (tr_nx (σ.2.1 0 36))) 0 19 (N : Int)) 0 21 0).2.1 0 36 = tr_nx (σ.2.1 0 36) by simp [am_si, am_sl]]
  · exact hb.1
  · exact hb.2
  · rw [Nat.sub_zero, hT]; rfl
  · rw [Nat.sub_zero, hT]
theorem ev_X11_isSameRow {σ : am_St} {A B : List Int} (hA1 : σ.1 0 25 = (A.length : Int)) (hA2 : arA σ 15 A) (hA3 : A.length ≤ 200) (ra : ∀ x ∈ A, inR x) (hB : rwM σ B) (hB3 : B.length ≤ 12) (rb : ∀ x ∈ B, inR x) : am_Ev SH mX11_isSameRow 0 [.ref 0] σ (am_rI (fun x σ2 => x = (if A = B then 1 else 0) ∧ σ2 = σ)) := by
  have e19 := hB.1
  have loop : ∀ (m2 : Nat) (i : Nat) (y : Int), (y = 0 ∧ ¬ A = B) ∨ (A.length = B.length ∧ y = pb A B i) → B.length - i < m2 → i ≤ B.length → am_Go SH mX11_isSameRow 0 (am_rI (fun x σ2 => x = (if A = B then 1 else 0) ∧ σ2 = σ)) 19 [some (.ref 0), some (.int (iZ y)), some (.int (iZ (i : Int)))] [] σ := by
    intro m2
    induction m2 with
    | zero => intro i y _ hm; exact absurd hm (by omega)
    | succ m2 ih =>
      intro i y hy hm hi
      have hy01 : y = 0 ∨ y = 1 := by rcases hy with z | z; exact Or.inl z.1; rw [z.2]; exact pb_01 _ _ _
      have hfin : B.length ≤ i ∨ y = 0 → y = if A = B then 1 else 0 := fun hc => by
        rcases hy with z | z
        · rw [if_neg z.2]; exact z.1
        · rw [z.2, pb_end (by rw [← z.2, z.1]; exact hc)]
          simp only [pb_eq z.1]
      refine go_iload_n dX11_isSameRow_19 rfl ?_
      refine go_aload_n dX11_isSameRow_20 rfl ?_
      refine go_geti fl_X11_124 dX11_isSameRow_21 sh_0 rfl ?_
      rw [e19]
      refine go_icmp_ge (tgt := 58) dX11_isSameRow_24 (by decide) (by unfold inR; omega) (by unfold inR; omega) (fun b24 => ?_) (fun b24 => ?_)
      · skip
        refine go_iload_n dX11_isSameRow_58 rfl ?_
        refine go_retZ dX11_isSameRow_59 rfl hy01 ?_
        exact ⟨hfin (by first | exact Or.inl (by omega) | exact Or.inr b28), rfl⟩
      · skip
        refine go_iload_n dX11_isSameRow_27 rfl ?_
        refine go_if_eq (tgt := 58) dX11_isSameRow_28 (by decide) (by unfold inR; omega) (fun b28 => ?_) (fun b28 => ?_)
        · skip
          refine go_iload_n dX11_isSameRow_58 rfl ?_
          refine go_retZ dX11_isSameRow_59 rfl hy01 ?_
          exact ⟨hfin (by first | exact Or.inl (by omega) | exact Or.inr b28), rfl⟩
        · skip
          obtain ⟨hl, hy2⟩ := hy.resolve_left (fun z => b28 z.1)
          have hne : pb A B i ≠ 0 := by rw [← hy2]; exact b28
          have a15 := hA2 i (by omega)
          have a11 := hB.2 i (by omega)
          refine go_aload_n dX11_isSameRow_31 rfl ?_
          refine go_getr fl_X11_52 dX11_isSameRow_32 sh_0 rfl ?_
          refine go_iload_n dX11_isSameRow_35 rfl ?_
          refine go_iaload dX11_isSameRow_36 (by first | assumption | rfl) (by first | assumption | exact Nat.le_of_ble_eq_true rfl) (by omega) (by omega) ?_
          rw [a15]
          refine go_aload_n dX11_isSameRow_37 rfl ?_
          refine go_getr fl_X11_40 dX11_isSameRow_38 sh_0 rfl ?_
          refine go_iload_n dX11_isSameRow_41 rfl ?_
          refine go_iaload dX11_isSameRow_42 (by first | assumption | rfl) (by first | assumption | exact Nat.le_of_ble_eq_true rfl) (by omega) (by omega) ?_
          rw [a11]
          refine go_icmp_ne (tgt := 50) dX11_isSameRow_43 (by decide) (ln_at_R ra) (ln_at_R rb) (fun b43 => ?_) (fun b43 => ?_)
          · skip
            refine go_iconst dX11_isSameRow_50 ?_
            refine go_ist1 dX11_isSameRow_51 (Nat.le_of_ble_eq_true rfl) rfl ?_
            refine go_inc2 dX11_isSameRow_52 (Nat.le_of_ble_eq_true rfl) rfl ?_
            refine go_goto (tgt := 19) dX11_isSameRow_55 (by decide) ?_
            refine ih (i + 1) _ (Or.inr ⟨hl, ?_⟩) (by omega) (by omega)
            rw [pb_step (by omega) hne]
            first | (rw [if_pos b43]; done) | (rw [if_neg b43]; done)
          · skip
            refine go_iconst dX11_isSameRow_46 ?_
            refine go_goto (tgt := 51) dX11_isSameRow_47 (by decide) ?_
            refine go_ist1 dX11_isSameRow_51 (Nat.le_of_ble_eq_true rfl) rfl ?_
            refine go_inc2 dX11_isSameRow_52 (Nat.le_of_ble_eq_true rfl) rfl ?_
            refine go_goto (tgt := 19) dX11_isSameRow_55 (by decide) ?_
            refine ih (i + 1) _ (Or.inr ⟨hl, ?_⟩) (by omega) (by omega)
            rw [pb_step (by omega) hne]
            first | (rw [if_pos b43]; done) | (rw [if_neg b43]; done)
  refine am_ev (by decide) [some (.ref 0), none, none] rfl (Nat.le_of_ble_eq_true rfl) ?_
  refine go_aload_n dX11_isSameRow_0 rfl ?_
  refine go_geti fl_X11_174 dX11_isSameRow_1 sh_0 rfl ?_
  first | (rw [hA1]) | (rw [e19]) | skip
  refine go_aload_n dX11_isSameRow_4 rfl ?_
  refine go_geti fl_X11_124 dX11_isSameRow_5 sh_0 rfl ?_
  first | (rw [hA1]) | (rw [e19]) | skip
  refine go_icmp_ne (tgt := 15) dX11_isSameRow_8 (by decide) (by unfold inR; omega) (by unfold inR; omega) (fun b8 => ?_) (fun b8 => ?_)
  · skip
    refine go_iconst dX11_isSameRow_15 ?_
    refine go_ist1 dX11_isSameRow_16 (Nat.le_of_ble_eq_true rfl) rfl ?_
    refine go_iconst dX11_isSameRow_17 ?_
    refine go_ist2 dX11_isSameRow_18 (Nat.le_of_ble_eq_true rfl) rfl ?_
    refine loop (B.length + 1) 0 _ ?_ (by omega) (by omega)
    first
      | exact Or.inl ⟨rfl, fun z => b8 (by rw [z])⟩
      | (refine Or.inr ⟨by omega, ?_⟩; rw [pb_0, if_pos (by omega)])
  · skip
    refine go_iconst dX11_isSameRow_11 ?_
    refine go_goto (tgt := 16) dX11_isSameRow_12 (by decide) ?_
    refine go_ist1 dX11_isSameRow_16 (Nat.le_of_ble_eq_true rfl) rfl ?_
    refine go_iconst dX11_isSameRow_17 ?_
    refine go_ist2 dX11_isSameRow_18 (Nat.le_of_ble_eq_true rfl) rfl ?_
    refine loop (B.length + 1) 0 _ ?_ (by omega) (by omega)
    first
      | exact Or.inl ⟨rfl, fun z => b8 (by rw [z])⟩
      | (refine Or.inr ⟨by omega, ?_⟩; rw [pb_0, if_pos (by omega)])
theorem tr_pick_add (a b : Int × Int × Int × Int) (w : Int) : tr_pick (tr_add a b) w = tr_pick a w + tr_pick b w := by
  unfold tr_pick tr_add
  split
  · rfl
  · split
    · rfl
    · split <;> rfl
theorem ev_X11_trialNow {σ : am_St} {L R : List (List Int)} {m : Nat} {times : Nat} {seed w : Int} (h : tbM σ L R m) (hR : 0 < R.length) (ht : times ≤ 40) (hs0 : 0 ≤ seed) (hsR : inR seed) (hw0 : 0 ≤ w) (hw3 : w ≤ 3) : am_Ev SH mX11_trialNow 4 [.ref 0, .int (iZ (times : Int)), .int (iZ seed), .int (iZ w)] σ (am_rI (fun x σ2 => x = tr_pick (tr_run (mt_sg R m) times seed (0, 0, 0, 0)) w ∧ fr [19, 21, 25, 26, 36] [11, 12, 15] σ σ2)) := by
  have h8 := h.S8
  have hS : okS (mt_sg R m) := okS_sg h.2.2.2.2.2.2.2.2 h.2.2.2.2.2.1 m
  generalize hT : tr_run (mt_sg R m) times seed (0, 0, 0, 0) = T
  generalize hQ : (am_rI (fun x σ2 => x = tr_pick T w ∧ fr [19, 21, 25, 26, 36] [11, 12, 15] σ σ2)) = Q
  have loop : ∀ (m2 : Nat) (n : Nat) (acc : Int × Int × Int × Int) (o6 : Option Value) (σ1 : am_St), times - n < m2 → n ≤ times → 0 ≤ σ1.2.1 0 36 → σ1.2.1 0 36 < 2147483648 → tr_run (mt_sg R m) (times - n) (σ1.2.1 0 36) acc = T → fr [19, 21, 25, 26, 36] [11, 12, 15] σ σ1 → am_Go SH mX11_trialNow 4 Q 12 [some (.ref 0), some (.int (iZ (times : Int))), some (.int (iZ seed)), some (.int (iZ w)), some (.int (iZ (tr_pick acc w))), some (.int (iZ (n : Int))), o6] [] σ1 := by
    intro m2
    induction m2 with
    | zero => intro n acc o6 σ1 hm; exact absurd hm (by omega)
    | succ m2 ih =>
      intro n acc o6 σ1 hm hn g0 g1 e1 ho
      have t1 := h.fr ho (by decide) (by decide)
      by_cases hlt : n < times
      · obtain ⟨f, hf⟩ : ∃ f, times - n = f + 1 := ⟨times - n - 1, by omega⟩
        rw [hf] at e1
        have hlb := tr_len_bd (σ1.2.1 0 36)
        have hrb := tr_row_bd (tr_len (σ1.2.1 0 36)) (tr_nx (σ1.2.1 0 36)) (R.length : Int) (by omega) (tr_nx_bd _).1 (tr_nx_bd _).2
        have hdr := ev_X11_drawRow t1 hR g0 g1
        have e1' : tr_run (mt_sg R m) f (tr_row (tr_len (σ1.2.1 0 36)) (tr_nx (σ1.2.1 0 36)) (R.length : Int)).2 (tr_add acc (tr_one (mt_sg R m) (tr_row (tr_len (σ1.2.1 0 36)) (tr_nx (σ1.2.1 0 36)) (R.length : Int)).1)) = T := by rw [← h8.1]; exact e1
        generalize hRow : tr_row (tr_len (σ1.2.1 0 36)) (tr_nx (σ1.2.1 0 36)) (R.length : Int) = row at *
        have hml := mt_len (mt_sg R m) (mt_spell (mt_sg R m) row.1).length (mt_spell (mt_sg R m) row.1) 0
        have hme := mt_dec_end (mt_sg R m) (mt_spell (mt_sg R m) row.1).length (mt_spell (mt_sg R m) row.1) 0
        have hsl := mt_spell_len hS.1 row.1
        have tail : ∀ (came : Int) (σ3 : am_St), (came = 0 ∨ came = 1 ∨ came = 2) → tr_pick (tr_one (mt_sg R m) row.1) w = (if w = 3 then ((mt_spell (mt_sg R m) row.1).length : Int) else if w = came then 1 else 0) → σ3.1 0 21 = ((mt_spell (mt_sg R m) row.1).length : Int) → σ3.2.1 0 36 = row.2 → fr [19, 21, 25, 26, 36] [11, 12, 15] σ σ3 → am_Go SH mX11_trialNow 4 Q 50 [some (.ref 0), some (.int (iZ (times : Int))), some (.int (iZ seed)), some (.int (iZ w)), some (.int (iZ (tr_pick acc w))), some (.int (iZ (n : Int))), o6] [.int (iZ came)] σ3 := by
          intro came σ3 hc hp e21 e36 ho3
          have nxt := fun o => ih (n + 1) (tr_add acc (tr_one (mt_sg R m) row.1)) o σ3 (by omega) (by omega) (by rw [e36]; exact hrb.2.2.1) (by rw [e36]; exact hrb.2.2.2) (by rw [e36, show times - (n + 1) = f by omega]; exact e1') ho3
          rw [tr_pick_add, hp] at nxt
          refine go_ist6 dX11_trialNow_50 (Nat.le_of_ble_eq_true rfl) rfl ?_
          refine go_iload dX11_trialNow_52 rfl ?_
          refine go_iload_n dX11_trialNow_54 rfl ?_
          refine go_iconst dX11_trialNow_55 ?_
          refine go_icmp_ne (tgt := 66) dX11_trialNow_56 (by decide) (by unfold inR; omega) (by unfold inR; omega) (fun b56 => ?_) (fun b56 => ?_)
          · skip
            refine go_iload_n dX11_trialNow_66 rfl ?_
            refine go_iload dX11_trialNow_67 rfl ?_
            refine go_icmp_ne (tgt := 76) dX11_trialNow_69 (by decide) (by unfold inR; omega) (by unfold inR; omega) (fun b69 => ?_) (fun b69 => ?_)
            · skip
              refine go_iconst dX11_trialNow_76 ?_
              refine go_iadd dX11_trialNow_77 ?_
              refine go_ist4 dX11_trialNow_78 (Nat.le_of_ble_eq_true rfl) rfl ?_
              refine go_inc5 dX11_trialNow_80 (Nat.le_of_ble_eq_true rfl) rfl ?_
              refine go_goto (tgt := 12) dX11_trialNow_83 (by decide) ?_
              first
                | (rw [if_pos (by omega)] at nxt; exact nxt _)
                | (rw [if_neg (by omega), if_pos (by omega)] at nxt; exact nxt _)
                | (rw [if_neg (by omega), if_neg (by omega)] at nxt; exact nxt _)
            · skip
              refine go_iconst dX11_trialNow_72 ?_
              refine go_goto (tgt := 77) dX11_trialNow_73 (by decide) ?_
              refine go_iadd dX11_trialNow_77 ?_
              refine go_ist4 dX11_trialNow_78 (Nat.le_of_ble_eq_true rfl) rfl ?_
              refine go_inc5 dX11_trialNow_80 (Nat.le_of_ble_eq_true rfl) rfl ?_
              refine go_goto (tgt := 12) dX11_trialNow_83 (by decide) ?_
              first
                | (rw [if_pos (by omega)] at nxt; exact nxt _)
                | (rw [if_neg (by omega), if_pos (by omega)] at nxt; exact nxt _)
                | (rw [if_neg (by omega), if_neg (by omega)] at nxt; exact nxt _)
          · skip
            refine go_aload_n dX11_trialNow_59 rfl ?_
            refine go_geti fl_X11_167 dX11_trialNow_60 sh_0 rfl ?_
            first | (rw [e21]) | skip
            refine go_goto (tgt := 77) dX11_trialNow_63 (by decide) ?_
            refine go_iadd dX11_trialNow_77 ?_
            refine go_ist4 dX11_trialNow_78 (Nat.le_of_ble_eq_true rfl) rfl ?_
            refine go_inc5 dX11_trialNow_80 (Nat.le_of_ble_eq_true rfl) rfl ?_
            refine go_goto (tgt := 12) dX11_trialNow_83 (by decide) ?_
            first
              | (rw [if_pos (by omega)] at nxt; exact nxt _)
              | (rw [if_neg (by omega), if_pos (by omega)] at nxt; exact nxt _)
              | (rw [if_neg (by omega), if_neg (by omega)] at nxt; exact nxt _)
        by_cases hst : (mt_dec (mt_sg R m) (mt_spell (mt_sg R m) row.1).length (mt_spell (mt_sg R m) row.1) 0).2 < ((mt_spell (mt_sg R m) row.1).length : Int)
        · have hone : tr_one (mt_sg R m) row.1 = (0, 0, 1, ((mt_spell (mt_sg R m) row.1).length : Int)) := by unfold tr_one; exact if_pos hst
          have hp : tr_pick (tr_one (mt_sg R m) row.1) w = (if w = 3 then ((mt_spell (mt_sg R m) row.1).length : Int) else if w = 2 then 1 else 0) := by
            rw [hone]
            rcases (by omega : w = 0 ∨ w = 1 ∨ w = 2 ∨ w = 3) with rfl | rfl | rfl | rfl <;> rfl
          refine go_iload dX11_trialNow_12 rfl ?_
          refine go_iload_n dX11_trialNow_14 rfl ?_
          refine go_icmp_ge (tgt := 86) dX11_trialNow_15 (by decide) (by unfold inR; omega) (by unfold inR; omega) (fun b15 => ?_) (fun b15 => ?_)
          · skip
            omega
          · skip
            refine go_aload_n dX11_trialNow_18 rfl ?_
            refine go_cvV0 (M2 := mX11_drawRow) dX11_trialNow_19 ml_X11_327 mv_X11_drawRow sh_0 rfl rfl (Nat.le_of_ble_eq_true rfl) (by decide) (hdr) (fun σ2 hq => ?_)
            obtain ⟨q1, q2, q3, q4⟩ := hq
            have t2 := t1.fr q4 (by decide) (by decide)
            refine go_aload_n dX11_trialNow_22 rfl ?_
            refine go_cvV0 (M2 := mX11_layBack) dX11_trialNow_23 ml_X11_186 mv_X11_layBack sh_0 rfl rfl (Nat.le_of_ble_eq_true rfl) (by decide) (ev_X11_layBack t2 q2) (fun σ3 hq3 => ?_)
            obtain ⟨⟨b1, b2, b3⟩, b4⟩ := hq3
            rw [if_pos hst] at b2
            refine go_aload_n dX11_trialNow_26 rfl ?_
            refine go_geti fl_X11_177 dX11_trialNow_27 sh_0 rfl ?_
            first | (rw [b2]) | skip
            refine go_iconst dX11_trialNow_30 ?_
            refine go_icmp_eq (tgt := 38) dX11_trialNow_31 (by decide) (by unfold inR; omega) (by unfold inR; omega) (fun b31 => ?_) (fun b31 => ?_)
            · skip
              omega
            · skip
              refine go_iconst dX11_trialNow_34 ?_
              refine go_goto (tgt := 50) dX11_trialNow_35 (by decide) ?_
              exact tail 2 σ3 (Or.inr (Or.inr rfl)) hp (by rw [b4.f 21 (by decide)]; exact q2.1) ((b4.1 0 36 (Or.inr (by decide))).2.trans q3) ((ho.tr (q4.wk (by decide) (by decide))).tr (b4.wk (by decide) (by decide)))
        · by_cases hsm : (mt_dec (mt_sg R m) (mt_spell (mt_sg R m) row.1).length (mt_spell (mt_sg R m) row.1) 0).1 = row.1
          · have hone : tr_one (mt_sg R m) row.1 = (1, 0, 0, ((mt_spell (mt_sg R m) row.1).length : Int)) := by unfold tr_one; exact (if_neg hst).trans (if_pos hsm)
            have hp : tr_pick (tr_one (mt_sg R m) row.1) w = (if w = 3 then ((mt_spell (mt_sg R m) row.1).length : Int) else if w = 0 then 1 else 0) := by
              rw [hone]
              rcases (by omega : w = 0 ∨ w = 1 ∨ w = 2 ∨ w = 3) with rfl | rfl | rfl | rfl <;> rfl
            refine go_iload dX11_trialNow_12 rfl ?_
            refine go_iload_n dX11_trialNow_14 rfl ?_
            refine go_icmp_ge (tgt := 86) dX11_trialNow_15 (by decide) (by unfold inR; omega) (by unfold inR; omega) (fun b15 => ?_) (fun b15 => ?_)
            · skip
              omega
            · skip
              refine go_aload_n dX11_trialNow_18 rfl ?_
              refine go_cvV0 (M2 := mX11_drawRow) dX11_trialNow_19 ml_X11_327 mv_X11_drawRow sh_0 rfl rfl (Nat.le_of_ble_eq_true rfl) (by decide) (hdr) (fun σ2 hq => ?_)
              obtain ⟨q1, q2, q3, q4⟩ := hq
              have t2 := t1.fr q4 (by decide) (by decide)
              refine go_aload_n dX11_trialNow_22 rfl ?_
              refine go_cvV0 (M2 := mX11_layBack) dX11_trialNow_23 ml_X11_186 mv_X11_layBack sh_0 rfl rfl (Nat.le_of_ble_eq_true rfl) (by decide) (ev_X11_layBack t2 q2) (fun σ3 hq3 => ?_)
              obtain ⟨⟨b1, b2, b3⟩, b4⟩ := hq3
              rw [if_neg hst] at b2
              refine go_aload_n dX11_trialNow_26 rfl ?_
              refine go_geti fl_X11_177 dX11_trialNow_27 sh_0 rfl ?_
              first | (rw [b2]) | skip
              refine go_iconst dX11_trialNow_30 ?_
              refine go_icmp_eq (tgt := 38) dX11_trialNow_31 (by decide) (by unfold inR; omega) (by unfold inR; omega) (fun b31 => ?_) (fun b31 => ?_)
              · skip
                refine go_aload_n dX11_trialNow_38 rfl ?_
                refine go_cvP0 (M2 := mX11_isSameRow) dX11_trialNow_39 ml_X11_330 mv_X11_isSameRow sh_0 rfl rfl (Nat.le_of_ble_eq_true rfl) (by decide) (ev_X11_isSameRow b1 b3 (by omega) (fun x hx => by have := hml.2 x hx; unfold inR; omega) (q1.fr b4 (by decide) (by decide)) (by omega) (fun x hx => by have := hrb.2.1 x hx; unfold inR; omega)) ?_
                rw [if_pos hsm]
                refine go_if_eq (tgt := 49) dX11_trialNow_42 (by decide) (by unfold inR; omega) (fun b42 => ?_) (fun b42 => ?_)
                · skip
                  exact absurd b42 (by decide)
                · skip
                  refine go_iconst dX11_trialNow_45 ?_
                  refine go_goto (tgt := 50) dX11_trialNow_46 (by decide) ?_
                  exact tail 0 σ3 (Or.inl rfl) hp (by rw [b4.f 21 (by decide)]; exact q2.1) ((b4.1 0 36 (Or.inr (by decide))).2.trans q3) ((ho.tr (q4.wk (by decide) (by decide))).tr (b4.wk (by decide) (by decide)))
              · skip
                exact absurd rfl b31
          · have hone : tr_one (mt_sg R m) row.1 = (0, 1, 0, ((mt_spell (mt_sg R m) row.1).length : Int)) := by unfold tr_one; exact (if_neg hst).trans (if_neg hsm)
            have hp : tr_pick (tr_one (mt_sg R m) row.1) w = (if w = 3 then ((mt_spell (mt_sg R m) row.1).length : Int) else if w = 1 then 1 else 0) := by
              rw [hone]
              rcases (by omega : w = 0 ∨ w = 1 ∨ w = 2 ∨ w = 3) with rfl | rfl | rfl | rfl <;> rfl
            refine go_iload dX11_trialNow_12 rfl ?_
            refine go_iload_n dX11_trialNow_14 rfl ?_
            refine go_icmp_ge (tgt := 86) dX11_trialNow_15 (by decide) (by unfold inR; omega) (by unfold inR; omega) (fun b15 => ?_) (fun b15 => ?_)
            · skip
              omega
            · skip
              refine go_aload_n dX11_trialNow_18 rfl ?_
              refine go_cvV0 (M2 := mX11_drawRow) dX11_trialNow_19 ml_X11_327 mv_X11_drawRow sh_0 rfl rfl (Nat.le_of_ble_eq_true rfl) (by decide) (hdr) (fun σ2 hq => ?_)
              obtain ⟨q1, q2, q3, q4⟩ := hq
              have t2 := t1.fr q4 (by decide) (by decide)
              refine go_aload_n dX11_trialNow_22 rfl ?_
              refine go_cvV0 (M2 := mX11_layBack) dX11_trialNow_23 ml_X11_186 mv_X11_layBack sh_0 rfl rfl (Nat.le_of_ble_eq_true rfl) (by decide) (ev_X11_layBack t2 q2) (fun σ3 hq3 => ?_)
              obtain ⟨⟨b1, b2, b3⟩, b4⟩ := hq3
              rw [if_neg hst] at b2
              refine go_aload_n dX11_trialNow_26 rfl ?_
              refine go_geti fl_X11_177 dX11_trialNow_27 sh_0 rfl ?_
              first | (rw [b2]) | skip
              refine go_iconst dX11_trialNow_30 ?_
              refine go_icmp_eq (tgt := 38) dX11_trialNow_31 (by decide) (by unfold inR; omega) (by unfold inR; omega) (fun b31 => ?_) (fun b31 => ?_)
              · skip
                refine go_aload_n dX11_trialNow_38 rfl ?_
                refine go_cvP0 (M2 := mX11_isSameRow) dX11_trialNow_39 ml_X11_330 mv_X11_isSameRow sh_0 rfl rfl (Nat.le_of_ble_eq_true rfl) (by decide) (ev_X11_isSameRow b1 b3 (by omega) (fun x hx => by have := hml.2 x hx; unfold inR; omega) (q1.fr b4 (by decide) (by decide)) (by omega) (fun x hx => by have := hrb.2.1 x hx; unfold inR; omega)) ?_
                rw [if_neg hsm]
                refine go_if_eq (tgt := 49) dX11_trialNow_42 (by decide) (by unfold inR; omega) (fun b42 => ?_) (fun b42 => ?_)
                · skip
                  refine go_iconst dX11_trialNow_49 ?_
                  exact tail 1 σ3 (Or.inr (Or.inl rfl)) hp (by rw [b4.f 21 (by decide)]; exact q2.1) ((b4.1 0 36 (Or.inr (by decide))).2.trans q3) ((ho.tr (q4.wk (by decide) (by decide))).tr (b4.wk (by decide) (by decide)))
                · skip
                  exact absurd rfl b42
              · skip
                exact absurd rfl b31
      · have ek : times - n = 0 := by omega
        rw [ek] at e1
        have e1' : acc = T := e1
        refine go_iload dX11_trialNow_12 rfl ?_
        refine go_iload_n dX11_trialNow_14 rfl ?_
        refine go_icmp_ge (tgt := 86) dX11_trialNow_15 (by decide) (by unfold inR; omega) (by unfold inR; omega) (fun b15 => ?_) (fun b15 => ?_)
        · skip
          refine go_iload dX11_trialNow_86 rfl ?_
          subst hQ
          refine go_retI dX11_trialNow_88 rfl ?_
          exact ⟨by rw [e1'], ho⟩
        · skip
          omega
  have o36 : fr [36] [] σ (am_sl σ 0 36 seed) := fr_sl (by decide)
  have hs2 := hsR.2
  have e36 : (am_sl σ 0 36 seed).2.1 0 36 = seed := by simp [am_sl]
  have hz : tr_pick (0, 0, 0, 0) w = 0 := by
    unfold tr_pick
    split
    · rfl
    · split
      · rfl
      · split <;> rfl
  have st := fun o => loop (times + 1) 0 (0, 0, 0, 0) o (am_sl σ 0 36 seed) (by omega) (by omega) (by rw [e36]; exact hs0) (by rw [e36]; exact hs2) (by rw [e36, Nat.sub_zero]; exact hT) (o36.wk (by decide) (by decide))
  rw [hz] at st
  refine am_ev (by decide) [some (.ref 0), some (.int (iZ ((times : Int)))), some (.int (iZ (seed))), some (.int (iZ (w))), none, none, none] rfl (Nat.le_of_ble_eq_true rfl) ?_
  refine go_iconst dX11_trialNow_0 ?_
  refine go_ist4 dX11_trialNow_1 (Nat.le_of_ble_eq_true rfl) rfl ?_
  refine go_aload_n dX11_trialNow_3 rfl ?_
  refine go_iload_n dX11_trialNow_4 rfl ?_
  refine go_i2l dX11_trialNow_5 hsR ?_
  refine go_putl fl_X11_314 dX11_trialNow_6 sh_0 rfl am_fit_long ?_
  refine go_iconst dX11_trialNow_9 ?_
  refine go_ist5 dX11_trialNow_10 (Nat.le_of_ble_eq_true rfl) rfl ?_
  exact st _
theorem ev_X11_trial {σ : am_St} {s : mS} {t seed w : Int} (h : RepM σ s) (ht : inR t) (hs : inR seed) (hw : inR w) : am_Ev SH mX11_trial 5 [.ref 0, .int (iZ t), .int (iZ seed), .int (iZ w)] σ (am_rI (fun x σ2 => x = m_trial s t seed w ∧ RepM σ2 s ∧ am_off XM σ σ2)) := by
  have h8 := h.1.S8
  have e0 := h.1.1
  by_cases h1 : 1 ≤ t ∧ t ≤ 40
  · by_cases h2 : seed < 0
    · have e : m_trial s t seed w = -102 := by unfold m_trial; rw [if_pos (by omega)]
      refine am_ev (by decide) [some (.ref 0), some (.int (iZ (t))), some (.int (iZ (seed))), some (.int (iZ (w)))] rfl (Nat.le_of_ble_eq_true rfl) ?_
      refine go_iload_n dX11_trial_0 rfl ?_
      refine go_iconst dX11_trial_1 ?_
      refine go_bipush dX11_trial_2 rfl ?_
      refine go_csP3 (M2 := mX11_within) dX11_trial_4 ml_X11_71 ms_X11_within (Nat.le_of_ble_eq_true rfl) (by decide) (ev_X11_within ht (by unfold inR; omega) (by unfold inR; omega)) ?_
      rw [if_pos h1]
      refine go_if_eq (tgt := 23) dX11_trial_7 (by decide) (by unfold inR; omega) (fun b7 => ?_) (fun b7 => ?_)
      · skip
        exact absurd b7 (by decide)
      · skip
        refine go_iload_n dX11_trial_10 rfl ?_
        refine go_if_lt (tgt := 23) dX11_trial_11 (by decide) hs (fun b11 => ?_) (fun b11 => ?_)
        · skip
          refine go_bipush dX11_trial_23 rfl ?_
          refine go_retI dX11_trial_25 rfl ?_
          exact ⟨e.symm, h, am_off.rf⟩
        · skip
          omega
    · by_cases h3 : 0 ≤ w ∧ w ≤ 3
      · obtain ⟨n, rfl⟩ := Int.eq_ofNat_of_zero_le (show 0 ≤ t by omega)
        by_cases h4 : s.2.1.length = 0
        · have e : m_trial s n seed w = -103 := by unfold m_trial; rw [if_neg (by omega), if_pos h4]
          refine am_ev (by decide) [some (.ref 0), some (.int (iZ ((n : Int)))), some (.int (iZ (seed))), some (.int (iZ (w)))] rfl (Nat.le_of_ble_eq_true rfl) ?_
          refine go_iload_n dX11_trial_0 rfl ?_
          refine go_iconst dX11_trial_1 ?_
          refine go_bipush dX11_trial_2 rfl ?_
          refine go_csP3 (M2 := mX11_within) dX11_trial_4 ml_X11_71 ms_X11_within (Nat.le_of_ble_eq_true rfl) (by decide) (ev_X11_within ht (by unfold inR; omega) (by unfold inR; omega)) ?_
          rw [if_pos h1]
          refine go_if_eq (tgt := 23) dX11_trial_7 (by decide) (by unfold inR; omega) (fun b7 => ?_) (fun b7 => ?_)
          · skip
            exact absurd b7 (by decide)
          · skip
            refine go_iload_n dX11_trial_10 rfl ?_
            refine go_if_lt (tgt := 23) dX11_trial_11 (by decide) hs (fun b11 => ?_) (fun b11 => ?_)
            · skip
              omega
            · skip
              refine go_iload_n dX11_trial_14 rfl ?_
              refine go_iconst dX11_trial_15 ?_
              refine go_iconst dX11_trial_16 ?_
              refine go_csP3 (M2 := mX11_within) dX11_trial_17 ml_X11_71 ms_X11_within (Nat.le_of_ble_eq_true rfl) (by decide) (ev_X11_within hw (by unfold inR; omega) (by unfold inR; omega)) ?_
              rw [if_pos h3]
              refine go_if_ne (tgt := 26) dX11_trial_20 (by decide) (by unfold inR; omega) (fun b20 => ?_) (fun b20 => ?_)
              · skip
                refine go_aload_n dX11_trial_26 rfl ?_
                refine go_geti fl_X11_109 dX11_trial_27 sh_0 rfl ?_
                first | (rw [e0]) | skip
                refine go_if_le (tgt := 43) dX11_trial_30 (by decide) (by unfold inR; omega) (fun b30 => ?_) (fun b30 => ?_)
                · skip
                  refine go_bipush dX11_trial_43 rfl ?_
                  refine go_retI dX11_trial_45 rfl ?_
                  exact ⟨e.symm, h, am_off.rf⟩
                · skip
                  omega
              · skip
                exact absurd b20 (by decide)
        · have e : m_trial s n seed w = tr_pick (tr_run (mt_sg s.2.1 s.2.2.1) n seed (0, 0, 0, 0)) w := by unfold m_trial; rw [if_neg (by omega), if_neg h4, Int.toNat_natCast]
          refine am_ev (by decide) [some (.ref 0), some (.int (iZ ((n : Int)))), some (.int (iZ (seed))), some (.int (iZ (w)))] rfl (Nat.le_of_ble_eq_true rfl) ?_
          refine go_iload_n dX11_trial_0 rfl ?_
          refine go_iconst dX11_trial_1 ?_
          refine go_bipush dX11_trial_2 rfl ?_
          refine go_csP3 (M2 := mX11_within) dX11_trial_4 ml_X11_71 ms_X11_within (Nat.le_of_ble_eq_true rfl) (by decide) (ev_X11_within ht (by unfold inR; omega) (by unfold inR; omega)) ?_
          rw [if_pos h1]
          refine go_if_eq (tgt := 23) dX11_trial_7 (by decide) (by unfold inR; omega) (fun b7 => ?_) (fun b7 => ?_)
          · skip
            exact absurd b7 (by decide)
          · skip
            refine go_iload_n dX11_trial_10 rfl ?_
            refine go_if_lt (tgt := 23) dX11_trial_11 (by decide) hs (fun b11 => ?_) (fun b11 => ?_)
            · skip
              omega
            · skip
              refine go_iload_n dX11_trial_14 rfl ?_
              refine go_iconst dX11_trial_15 ?_
              refine go_iconst dX11_trial_16 ?_
              refine go_csP3 (M2 := mX11_within) dX11_trial_17 ml_X11_71 ms_X11_within (Nat.le_of_ble_eq_true rfl) (by decide) (ev_X11_within hw (by unfold inR; omega) (by unfold inR; omega)) ?_
              rw [if_pos h3]
              refine go_if_ne (tgt := 26) dX11_trial_20 (by decide) (by unfold inR; omega) (fun b20 => ?_) (fun b20 => ?_)
              · skip
                refine go_aload_n dX11_trial_26 rfl ?_
                refine go_geti fl_X11_109 dX11_trial_27 sh_0 rfl ?_
                first | (rw [e0]) | skip
                refine go_if_le (tgt := 43) dX11_trial_30 (by decide) (by unfold inR; omega) (fun b30 => ?_) (fun b30 => ?_)
                · skip
                  omega
                · skip
                  refine go_aload_n dX11_trial_33 rfl ?_
                  refine go_iload_n dX11_trial_34 rfl ?_
                  refine go_iload_n dX11_trial_35 rfl ?_
                  refine go_iload_n dX11_trial_36 rfl ?_
                  refine go_cvI3 (M2 := mX11_trialNow) dX11_trial_37 ml_X11_333 mv_X11_trialNow sh_0 rfl rfl (Nat.le_of_ble_eq_true rfl) (by decide) (ev_X11_trialNow h.1 (by omega) (by omega) (by omega) hs h3.1 h3.2) (fun x σ1 hq => ?_)
                  refine go_goto (tgt := 45) dX11_trial_40 (by decide) ?_
                  refine go_retI dX11_trial_45 rfl ?_
                  exact ⟨by rw [e]; exact hq.1, h.fr hq.2 (by decide) (by decide), hq.2.off (by decide)⟩
              · skip
                exact absurd b20 (by decide)
      · have e : m_trial s t seed w = -102 := by unfold m_trial; rw [if_pos (by omega)]
        refine am_ev (by decide) [some (.ref 0), some (.int (iZ (t))), some (.int (iZ (seed))), some (.int (iZ (w)))] rfl (Nat.le_of_ble_eq_true rfl) ?_
        refine go_iload_n dX11_trial_0 rfl ?_
        refine go_iconst dX11_trial_1 ?_
        refine go_bipush dX11_trial_2 rfl ?_
        refine go_csP3 (M2 := mX11_within) dX11_trial_4 ml_X11_71 ms_X11_within (Nat.le_of_ble_eq_true rfl) (by decide) (ev_X11_within ht (by unfold inR; omega) (by unfold inR; omega)) ?_
        rw [if_pos h1]
        refine go_if_eq (tgt := 23) dX11_trial_7 (by decide) (by unfold inR; omega) (fun b7 => ?_) (fun b7 => ?_)
        · skip
          exact absurd b7 (by decide)
        · skip
          refine go_iload_n dX11_trial_10 rfl ?_
          refine go_if_lt (tgt := 23) dX11_trial_11 (by decide) hs (fun b11 => ?_) (fun b11 => ?_)
          · skip
            omega
          · skip
            refine go_iload_n dX11_trial_14 rfl ?_
            refine go_iconst dX11_trial_15 ?_
            refine go_iconst dX11_trial_16 ?_
            refine go_csP3 (M2 := mX11_within) dX11_trial_17 ml_X11_71 ms_X11_within (Nat.le_of_ble_eq_true rfl) (by decide) (ev_X11_within hw (by unfold inR; omega) (by unfold inR; omega)) ?_
            rw [if_neg h3]
            refine go_if_ne (tgt := 26) dX11_trial_20 (by decide) (by unfold inR; omega) (fun b20 => ?_) (fun b20 => ?_)
            · skip
              exact absurd rfl b20
            · skip
              refine go_bipush dX11_trial_23 rfl ?_
              refine go_retI dX11_trial_25 rfl ?_
              exact ⟨e.symm, h, am_off.rf⟩
  · have e : m_trial s t seed w = -102 := by unfold m_trial; rw [if_pos (by omega)]
    refine am_ev (by decide) [some (.ref 0), some (.int (iZ (t))), some (.int (iZ (seed))), some (.int (iZ (w)))] rfl (Nat.le_of_ble_eq_true rfl) ?_
    refine go_iload_n dX11_trial_0 rfl ?_
    refine go_iconst dX11_trial_1 ?_
    refine go_bipush dX11_trial_2 rfl ?_
    refine go_csP3 (M2 := mX11_within) dX11_trial_4 ml_X11_71 ms_X11_within (Nat.le_of_ble_eq_true rfl) (by decide) (ev_X11_within ht (by unfold inR; omega) (by unfold inR; omega)) ?_
    rw [if_neg h1]
    refine go_if_eq (tgt := 23) dX11_trial_7 (by decide) (by unfold inR; omega) (fun b7 => ?_) (fun b7 => ?_)
    · skip
      refine go_bipush dX11_trial_23 rfl ?_
      refine go_retI dX11_trial_25 rfl ?_
      exact ⟨e.symm, h, am_off.rf⟩
    · skip
      exact absurd rfl b7
