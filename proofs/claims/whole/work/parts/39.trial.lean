/-! ===== trials: the mathematics, and the class's Trials ===== -/
def tr_nx (x : Int) : Int := (1103515245 * x + 12345) % 2147483648
def tr_dr (x n : Int) : Int := (x / 65536) % n
/-- a row of so many drawn rules, and the number that is left -/
def tr_row : Nat → Int → Int → List Int × Int
  | 0, x, _ => ([], x)
  | k + 1, x, n => (tr_dr (tr_nx x) n :: (tr_row k (tr_nx x) n).1, (tr_row k (tr_nx x) n).2)
def tr_len (x : Int) : Nat := (1 + tr_dr (tr_nx x) 5).toNat
/-- same, another, stuck, characters: what one time adds -/
def tr_one (S : List (List Int)) (row : List Int) : Int × Int × Int × Int :=
  let w := mt_spell S row
  let dc := mt_dec S w.length w 0
  if dc.2 < w.length then (0, 0, 1, w.length) else if dc.1 = row then (1, 0, 0, w.length) else (0, 1, 0, w.length)
def tr_add (a b : Int × Int × Int × Int) : Int × Int × Int × Int := (a.1 + b.1, a.2.1 + b.2.1, a.2.2.1 + b.2.2.1, a.2.2.2 + b.2.2.2)
def tr_run (S : List (List Int)) : Nat → Int → Int × Int × Int × Int → Int × Int × Int × Int
  | 0, _, acc => acc
  | k + 1, x, acc => tr_run S k (tr_row (tr_len x) (tr_nx x) S.length).2 (tr_add acc (tr_one S (tr_row (tr_len x) (tr_nx x) S.length).1))
theorem tr_nx_bd (x : Int) : 0 ≤ tr_nx x ∧ tr_nx x < 2147483648 := ⟨Int.emod_nonneg _ (by decide), Int.emod_lt_of_pos _ (by decide)⟩
theorem tr_dr_bd {x n : Int} (hn : 0 < n) : 0 ≤ tr_dr x n ∧ tr_dr x n < n := ⟨Int.emod_nonneg _ (by omega), Int.emod_lt_of_pos _ hn⟩
theorem tr_row_bd : ∀ (k : Nat) (x n : Int), 0 < n → 0 ≤ x → x < 2147483648 → (tr_row k x n).1.length = k ∧ (∀ r ∈ (tr_row k x n).1, 0 ≤ r ∧ r < n) ∧ 0 ≤ (tr_row k x n).2 ∧ (tr_row k x n).2 < 2147483648
  | 0, x, n, _, h1, h2 => ⟨rfl, fun r hr => by simp [tr_row] at hr, h1, h2⟩
  | k + 1, x, n, hn, h1, h2 => by
    have ih := tr_row_bd k (tr_nx x) n hn (tr_nx_bd x).1 (tr_nx_bd x).2
    unfold tr_row
    refine ⟨by simp only [List.length_cons]; rw [ih.1], fun r hr => ?_, ih.2.2⟩
    rcases List.mem_cons.mp hr with z | z
    · rw [z]; exact tr_dr_bd hn
    · exact ih.2.1 r z
theorem tr_len_bd (x : Int) : 1 ≤ tr_len x ∧ tr_len x ≤ 5 := by
  have := tr_dr_bd (x := tr_nx x) (n := 5) (by decide)
  unfold tr_len
  omega
/-- the class's Trials (the cell 115) -/
def trB (σ : am_St) : Prop := (∃ ys, hold σ 116 5 ys) ∧ (∃ ys, hold σ 118 56 ys) ∧ ∃ ys, hold σ 120 56 ys
def TRL : List Nat := [115, 116, 117, 118, 119, 120, 121]
theorem ev_X8_draw {σ : am_St} {n : Int} (h0 : 0 ≤ σ.2.1 115 3) (h1 : σ.2.1 115 3 < 2147483648) (hn : 0 < n) (hn2 : n < 1000) : am_Ev SH mX8_draw 0 [.ref 115, .int (iZ n)] σ (am_rI (fun x σ2 => x = tr_dr (tr_nx (σ.2.1 115 3)) n ∧ σ2 = am_sl σ 115 3 (tr_nx (σ.2.1 115 3)))) := by
  have hb := tr_nx_bd (σ.2.1 115 3)
  have e1 : (am_sl σ 115 3 (tr_nx (σ.2.1 115 3))).2.1 115 3 = tr_nx (σ.2.1 115 3) := by simp [am_sl]
  refine am_ev (by decide) [some (.ref 115), some (.int (iZ (n)))] rfl (Nat.le_of_ble_eq_true rfl) ?_
  refine go_aload_n dX8_draw_0 rfl ?_
  refine go_ldc2 dX8_draw_1 kc_X8_84 ?_
  refine go_aload_n dX8_draw_4 rfl ?_
  refine go_getl fl_X8_26 dX8_draw_5 sh_115 rfl ?_
  refine go_lmul dX8_draw_8 ?_
  refine go_ldc2 dX8_draw_9 kc_X8_86 ?_
  refine go_ladd dX8_draw_12 ?_
  refine go_ldc2 dX8_draw_13 kc_X8_88 ?_
  refine go_lrem dX8_draw_16 (by omega) (by unfold inL; omega) (by omega) (by unfold inL; omega) ?_
  rw [show (1103515245 * σ.2.1 115 3 + 12345) % 2147483648 = tr_nx (σ.2.1 115 3) from rfl]
  refine go_putl fl_X8_26 dX8_draw_17 sh_115 rfl am_fit_long ?_
  refine go_iload_n dX8_draw_20 rfl ?_
  refine go_if_le (tgt := 39) dX8_draw_21 (by decide) (by unfold inR; omega) (fun b21 => ?_) (fun b21 => ?_)
  · skip
    exact absurd b21 (by omega)
  · skip
    refine go_aload_n dX8_draw_24 rfl ?_
    refine go_getl fl_X8_26 dX8_draw_25 sh_115 rfl ?_
    rw [e1]
    refine go_ldc2 dX8_draw_28 kc_X8_90 ?_
    refine go_ldiv dX8_draw_31 (by omega) (by unfold inL; omega) (by omega) (by unfold inL; omega) ?_
    refine go_iload_n dX8_draw_32 rfl ?_
    refine go_i2l dX8_draw_33 (by unfold inR; omega) ?_
    refine go_lrem dX8_draw_34 (by omega) (by unfold inL; omega) (by omega) (by unfold inL; omega) ?_
    refine go_l2i dX8_draw_35 ?_
    refine go_goto (tgt := 40) dX8_draw_36 (by decide) ?_
    refine go_retI dX8_draw_40 rfl ?_
    exact ⟨rfl, rfl⟩
theorem ev_X8_drawRow {σ : am_St} {n : Int} {ys : List Int} (h : hold σ 116 5 ys) (h0 : 0 ≤ σ.2.1 115 3) (h1 : σ.2.1 115 3 < 2147483648) (hn : 0 < n) (hn2 : n < 1000) : am_Ev SH mX8_drawRow 1 [.ref 115, .int (iZ n)] σ (am_rV (fun σ2 => hold σ2 116 5 (tr_row (tr_len (σ.2.1 115 3)) (tr_nx (σ.2.1 115 3)) n).1 ∧ σ2.2.1 115 3 = (tr_row (tr_len (σ.2.1 115 3)) (tr_nx (σ.2.1 115 3)) n).2 ∧ (∀ j, σ2.1 115 j = σ.1 115 j) ∧ am_off [115, 116, 117] σ σ2)) := by
  generalize hT : tr_row (tr_len (σ.2.1 115 3)) (tr_nx (σ.2.1 115 3)) n = T
  have hlen := tr_len_bd (σ.2.1 115 3)
  have loop : ∀ (m : Nat) (i : Nat) (row : List Int) (σ1 : am_St), tr_len (σ.2.1 115 3) - i < m → i ≤ tr_len (σ.2.1 115 3) → row.length = i → hold σ1 116 5 row → 0 ≤ σ1.2.1 115 3 → σ1.2.1 115 3 < 2147483648 → row ++ (tr_row (tr_len (σ.2.1 115 3) - i) (σ1.2.1 115 3) n).1 = T.1 → (tr_row (tr_len (σ.2.1 115 3) - i) (σ1.2.1 115 3) n).2 = T.2 → (∀ j, σ1.1 115 j = σ.1 115 j) → am_off [115, 116, 117] σ σ1 → am_Go SH mX8_drawRow 1 (am_rV (fun σ2 => hold σ2 116 5 T.1 ∧ σ2.2.1 115 3 = T.2 ∧ (∀ j, σ2.1 115 j = σ.1 115 j) ∧ am_off [115, 116, 117] σ σ2)) 17 [some (.ref 115), some (.int (iZ n)), some (.int (iZ ((tr_len (σ.2.1 115 3) : Nat) : Int))), some (.int (iZ i))] [] σ1 := by
    intro m
    induction m with
    | zero => intro i row σ1 hm; exact absurd hm (by omega)
    | succ m ih =>
      intro i row σ1 hm hi hrow hr g0 g1 e1 e2 hj ho
      by_cases hlt : i < tr_len (σ.2.1 115 3)
      · have hd := tr_dr_bd (x := tr_nx (σ1.2.1 115 3)) hn
        have hb := tr_nx_bd (σ1.2.1 115 3)
        obtain ⟨f, hf⟩ : ∃ f, tr_len (σ.2.1 115 3) - i = f + 1 := ⟨tr_len (σ.2.1 115 3) - i - 1, by omega⟩
        rw [hf] at e1 e2
        unfold tr_row at e1 e2
        refine go_iload_n dX8_drawRow_17 rfl ?_
        refine go_iload_n dX8_drawRow_18 rfl ?_
        refine go_icmp_ge (tgt := 40) dX8_drawRow_19 (by decide) (by unfold inR; omega) (by unfold inR; omega) (fun b19 => ?_) (fun b19 => ?_)
        · skip
          exact absurd b19 (by omega)
        · skip
          refine go_aload_n dX8_drawRow_22 rfl ?_
          refine go_getr fl_X8_14 dX8_drawRow_23 sh_115 rfl ?_
          refine go_aload_n dX8_drawRow_26 rfl ?_
          refine go_iload_n dX8_drawRow_27 rfl ?_
          refine go_cvI1 (M2 := mX8_draw) dX8_drawRow_28 ml_X8_59 mv_X8_draw sh_115 rfl rfl (Nat.le_of_ble_eq_true rfl) (by decide) (ev_X8_draw g0 g1 hn hn2) (fun x σ2 hq => ?_)
          obtain ⟨rfl, rfl⟩ := hq
          refine go_cvV1 (M2 := mX1_add) dX8_drawRow_31 ml_X8_63 mv_X1_add hr.1 rfl rfl (Nat.le_of_ble_eq_true rfl) (by decide) (ev_X1_add (hold_sl hr (by decide) (by decide)) (by unfold inR; omega) (by omega)) (fun σ3 hq3 => ?_)
          refine go_inc3 dX8_drawRow_34 (Nat.le_of_ble_eq_true rfl) rfl ?_
          refine go_goto (tgt := 17) dX8_drawRow_37 (by decide) ?_
          have e3 : σ3.2.1 115 3 = tr_nx (σ1.2.1 115 3) := by rw [(hq3.2 115 (by decide)).2.1]; simp [am_sl]
          rw [show (i : Int) + 1 = ((i + 1 : Nat) : Int) by omega]
          refine ih (i + 1) _ σ3 (by omega) (by omega) (by simp; omega) hq3.1 (by rw [e3]; exact hb.1) (by rw [e3]; exact hb.2) ?_ ?_ (fun j => by rw [(hq3.2 115 (by decide)).1]; exact hj j) (ho.tr ((am_off_sl (by decide)).tr (hq3.2.wk (by decide))))
          · rw [e3, show tr_len (σ.2.1 115 3) - (i + 1) = f by omega, ← e1]; simp
          · rw [e3, show tr_len (σ.2.1 115 3) - (i + 1) = f by omega, ← e2]
      · skip
        refine go_iload_n dX8_drawRow_17 rfl ?_
        refine go_iload_n dX8_drawRow_18 rfl ?_
        refine go_icmp_ge (tgt := 40) dX8_drawRow_19 (by decide) (by unfold inR; omega) (by unfold inR; omega) (fun b19 => ?_) (fun b19 => ?_)
        · skip
          refine go_retV dX8_drawRow_40 rfl ?_
          rw [show tr_len (σ.2.1 115 3) - i = 0 by omega] at e1 e2
          exact ⟨by rw [← e1]; simpa [tr_row] using hr, e2, hj, ho⟩
        · skip
          exact absurd b19 (by omega)
  have hd5 := tr_dr_bd (x := tr_nx (σ.2.1 115 3)) (n := 5) (by decide)
  refine am_ev (by decide) [some (.ref 115), some (.int (iZ (n))), none, none] rfl (Nat.le_of_ble_eq_true rfl) ?_
  refine go_aload_n dX8_drawRow_0 rfl ?_
  refine go_getr fl_X8_14 dX8_drawRow_1 sh_115 rfl ?_
  refine go_cvV0 (M2 := mX1_clear) dX8_drawRow_4 ml_X8_56 mv_X1_clear h.1 rfl rfl (Nat.le_of_ble_eq_true rfl) (by decide) (ev_X1_clear h) (fun σ1 hq1 => ?_)
  have es : σ1.2.1 115 3 = σ.2.1 115 3 := (hq1.2 115 (by decide)).2.1 3
  refine go_iconst dX8_drawRow_7 ?_
  refine go_aload_n dX8_drawRow_8 rfl ?_
  refine go_iconst dX8_drawRow_9 ?_
  refine go_cvI1 (M2 := mX8_draw) dX8_drawRow_10 ml_X8_59 mv_X8_draw sh_115 rfl rfl (Nat.le_of_ble_eq_true rfl) (by decide) (ev_X8_draw (n := 5) (by rw [es]; exact h0) (by rw [es]; exact h1) (by decide) (by decide)) (fun x σ2 hq2 => ?_)
  obtain ⟨rfl, rfl⟩ := hq2
  rw [es]
  refine go_iadd dX8_drawRow_13 ?_
  rw [show (1 : Int) + tr_dr (tr_nx (σ.2.1 115 3)) 5 = ((tr_len (σ.2.1 115 3) : Nat) : Int) by unfold tr_len; omega]
  refine go_ist2 dX8_drawRow_14 (Nat.le_of_ble_eq_true rfl) rfl ?_
  refine go_iconst dX8_drawRow_15 ?_
  refine go_ist3 dX8_drawRow_16 (Nat.le_of_ble_eq_true rfl) rfl ?_
  have e3 : (am_sl σ1 115 3 (tr_nx (σ.2.1 115 3))).2.1 115 3 = tr_nx (σ.2.1 115 3) := by simp [am_sl]
  exact loop 6 0 [] _ (by omega) (by omega) rfl (hold_sl hq1.1 (by decide) (by decide)) (by rw [e3]; exact (tr_nx_bd _).1) (by rw [e3]; exact (tr_nx_bd _).2) (by rw [e3, ← hT]; simp) (by rw [e3, ← hT]; simp) (fun j => (hq1.2 115 (by decide)).1 j) ((hq1.2.wk (by decide)).tr (am_off_sl (by decide)))
