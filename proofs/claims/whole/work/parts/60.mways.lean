/-! ===== the reference: back, ways ===== -/
def WKF : List Nat := [21, 25, 26]
def WKA : List Nat := [12, 13, 14, 15]
theorem ev_X11_backNow {σ : am_St} {s : mS} {w : Int} (h : RepM σ s) (hw : inR w) : am_Ev SH mX11_backNow 4 [.ref 0, .int (iZ w)] σ (am_rI (fun x σ2 => x = (if w = 0 then ((m_dec s).1.length : Int) else m_stuck s) ∧ bkM σ2 (mt_sg s.2.1 s.2.2.1) s.2.2.2.1 ∧ RepM σ2 s ∧ fr WKF WKA σ σ2)) := by
  refine am_ev (by decide) [some (.ref 0), some (.int (iZ (w)))] rfl (Nat.le_of_ble_eq_true rfl) ?_
  refine go_aload_n dX11_backNow_0 rfl ?_
  refine go_cvV0 (M2 := mX11_workText) dX11_backNow_1 ml_X11_183 mv_X11_workText sh_0 rfl rfl (Nat.le_of_ble_eq_true rfl) (by decide) (ev_X11_workText h) (fun σ1 hq1 => ?_)
  have g1 := h.fr hq1.2 (by decide) (by decide)
  refine go_aload_n dX11_backNow_4 rfl ?_
  refine go_cvV0 (M2 := mX11_layBack) dX11_backNow_5 ml_X11_186 mv_X11_layBack sh_0 rfl rfl (Nat.le_of_ble_eq_true rfl) (by decide) (ev_X11_layBack g1.1 hq1.1) (fun σ2 hq2 => ?_)
  have g2 := g1.fr hq2.2 (by decide) (by decide)
  refine go_iload_n dX11_backNow_8 rfl ?_
  refine go_if_ne (tgt := 19) dX11_backNow_9 (by decide) hw (fun b9 => ?_) (fun b9 => ?_)
  · skip
    refine go_aload_n dX11_backNow_19 rfl ?_
    refine go_geti fl_X11_177 dX11_backNow_20 sh_0 rfl ?_
    first | (rw [hq2.1.1]) | (rw [hq2.1.2.1]) | skip
    refine go_retI dX11_backNow_23 rfl ?_
    refine ⟨?_, hq2.1, g2, (hq1.2.wk (by decide) (by decide)).tr (hq2.2.wk (by decide) (by decide))⟩
    first | (rw [if_pos b9]; rfl) | (rw [if_neg b9]; rfl)
  · skip
    refine go_aload_n dX11_backNow_12 rfl ?_
    refine go_geti fl_X11_174 dX11_backNow_13 sh_0 rfl ?_
    first | (rw [hq2.1.1]) | (rw [hq2.1.2.1]) | skip
    refine go_goto (tgt := 23) dX11_backNow_16 (by decide) ?_
    refine go_retI dX11_backNow_23 rfl ?_
    refine ⟨?_, hq2.1, g2, (hq1.2.wk (by decide) (by decide)).tr (hq2.2.wk (by decide) (by decide))⟩
    first | (rw [if_pos b9]; rfl) | (rw [if_neg b9]; rfl)
theorem ev_X11_back {σ : am_St} {s : mS} {w : Int} (h : RepM σ s) (hw : inR w) : am_Ev SH mX11_back 5 [.ref 0, .int (iZ w)] σ (am_rI (fun x σ2 => x = m_back s w ∧ RepM σ2 s ∧ am_off XM σ σ2)) := by
  refine am_ev (by decide) [some (.ref 0), some (.int (iZ (w)))] rfl (Nat.le_of_ble_eq_true rfl) ?_
  refine go_iload_n dX11_back_0 rfl ?_
  refine go_iconst dX11_back_1 ?_
  refine go_iconst dX11_back_2 ?_
  refine go_csP3 (M2 := mX11_within) dX11_back_3 ml_X11_71 ms_X11_within (Nat.le_of_ble_eq_true rfl) (by decide) (ev_X11_within hw (by unfold inR; omega) (by unfold inR; omega)) ?_
  refine go_if_eq (tgt := 17) dX11_back_6 (by decide) (by unfold inR; split <;> omega) (fun b6 => ?_) (fun b6 => ?_)
  · skip
    have hc : ¬ (0 ≤ w ∧ w ≤ 1) := fun z => by rw [if_pos z] at b6; exact absurd b6 (by decide)
    have hmb : m_back s w = -102 := by unfold m_back; rw [if_pos (by omega)]
    rw [hmb]
    have hfin := And.intro h (am_off.rf (ks := XM) (σ := σ))
    refine go_bipush dX11_back_17 rfl ?_
    refine go_retI dX11_back_19 rfl ?_
    exact ⟨rfl, hfin⟩
  · skip
    have hc : 0 ≤ w ∧ w ≤ 1 := by by_cases z : 0 ≤ w ∧ w ≤ 1; exact z; rw [if_neg z] at b6; exact absurd rfl b6
    have hmb : m_back s w = if w = 0 then ((m_dec s).1.length : Int) else m_stuck s := by unfold m_back; rw [if_neg (by omega)]
    rw [hmb]
    refine go_aload_n dX11_back_9 rfl ?_
    refine go_iload_n dX11_back_10 rfl ?_
    refine go_cvI1 (M2 := mX11_backNow) dX11_back_11 ml_X11_189 mv_X11_backNow sh_0 rfl rfl (Nat.le_of_ble_eq_true rfl) (by decide) (ev_X11_backNow h hw) (fun x σ1 hq => ?_)
    obtain ⟨rfl, q2, q3, q4⟩ := hq
    have hfin := And.intro q3 (q4.off (by decide))
    refine go_goto (tgt := 19) dX11_back_14 (by decide) ?_
    refine go_retI dX11_back_19 rfl ?_
    exact ⟨rfl, hfin⟩
theorem ev_X11_backAtNow {σ : am_St} {s : mS} {p : Int} (h : RepM σ s) (hp : inR p) : am_Ev SH mX11_backAtNow 5 [.ref 0, .int (iZ p)] σ (am_rI (fun x σ2 => x = ln_at (m_dec s).1 p ∧ RepM σ2 s ∧ am_off XM σ σ2)) := by
  have hl := (mt_len (mt_sg s.2.1 s.2.2.1) s.2.2.2.1.length s.2.2.2.1 0).1
  have h56 := h.2.2.1.2.2.2
  have hml : (m_dec s).1.length ≤ 56 := by unfold m_dec; omega
  refine am_ev (by decide) [some (.ref 0), some (.int (iZ (p)))] rfl (Nat.le_of_ble_eq_true rfl) ?_
  refine go_aload_n dX11_backAtNow_0 rfl ?_
  refine go_iconst dX11_backAtNow_1 ?_
  refine go_cvI1 (M2 := mX11_backNow) dX11_backAtNow_2 ml_X11_189 mv_X11_backNow sh_0 rfl rfl (Nat.le_of_ble_eq_true rfl) (by decide) (ev_X11_backNow h (by unfold inR; omega)) (fun x σ1 hq => ?_)
  obtain ⟨_, q2, q3, q4⟩ := hq
  have e25 : σ1.1 0 25 = ((m_dec s).1.length : Int) := q2.1
  have a15 : arA σ1 15 (m_dec s).1 := q2.2.2
  refine go_pop dX11_backAtNow_5 rfl ?_
  refine go_iload_n dX11_backAtNow_6 rfl ?_
  refine go_iconst dX11_backAtNow_7 ?_
  refine go_aload_n dX11_backAtNow_8 rfl ?_
  refine go_geti fl_X11_174 dX11_backAtNow_9 sh_0 rfl ?_
  first | (rw [e25]) | skip
  refine go_iconst dX11_backAtNow_12 ?_
  refine go_isub dX11_backAtNow_13 ?_
  refine go_csP3 (M2 := mX11_within) dX11_backAtNow_14 ml_X11_71 ms_X11_within (Nat.le_of_ble_eq_true rfl) (by decide) (ev_X11_within hp (by unfold inR; omega) (by unfold inR; omega)) ?_
  refine go_if_eq (tgt := 29) dX11_backAtNow_17 (by decide) (by unfold inR; split <;> omega) (fun b17 => ?_) (fun b17 => ?_)
  · skip
    have hc : ¬ (0 ≤ p ∧ p ≤ ((m_dec s).1.length : Int) - 1) := fun z => by rw [if_pos z] at b17; exact absurd b17 (by decide)
    have hln : ln_at (m_dec s).1 p = -101 := by unfold ln_at; rw [if_pos (by omega)]
    rw [hln]
    refine go_bipush dX11_backAtNow_29 rfl ?_
    refine go_retI dX11_backAtNow_31 rfl ?_
    exact ⟨rfl, q3, q4.off (by decide)⟩
  · skip
    have hc : 0 ≤ p ∧ p ≤ ((m_dec s).1.length : Int) - 1 := by by_cases z : 0 ≤ p ∧ p ≤ ((m_dec s).1.length : Int) - 1; exact z; rw [if_neg z] at b17; exact absurd rfl b17
    obtain ⟨j, rfl⟩ : ∃ n : Nat, p = (n : Int) := ⟨p.toNat, by omega⟩
    have hln := a15 j (by omega)
    refine go_aload_n dX11_backAtNow_20 rfl ?_
    refine go_getr fl_X11_52 dX11_backAtNow_21 sh_0 rfl ?_
    refine go_iload_n dX11_backAtNow_24 rfl ?_
    refine go_iaload dX11_backAtNow_25 (by first | assumption | rfl) (by first | assumption | exact Nat.le_of_ble_eq_true rfl) (by omega) (by omega) ?_
    first | (rw [e25]) | skip
    rw [hln]
    refine go_goto (tgt := 31) dX11_backAtNow_26 (by decide) ?_
    refine go_retI dX11_backAtNow_31 rfl ?_
    exact ⟨rfl, q3, q4.off (by decide)⟩
theorem ev_X11_backAt {σ : am_St} {s : mS} {p : Int} (h : RepM σ s) (hp : inR p) : am_Ev SH mX11_backAt 6 [.ref 0, .int (iZ p)] σ (am_rI (fun x σ2 => x = ln_at (m_dec s).1 p ∧ RepM σ2 s ∧ am_off XM σ σ2)) := by
  refine am_ev (by decide) [some (.ref 0), some (.int (iZ (p)))] rfl (Nat.le_of_ble_eq_true rfl) ?_
  refine go_aload_n dX11_backAt_0 rfl ?_
  refine go_iload_n dX11_backAt_1 rfl ?_
  refine go_cvI1 (M2 := mX11_backAtNow) dX11_backAt_2 ml_X11_192 mv_X11_backAtNow sh_0 rfl rfl (Nat.le_of_ble_eq_true rfl) (by decide) (ev_X11_backAtNow h hp) (fun x σ1 hq => ?_)
  refine go_retI dX11_backAt_5 rfl ?_
  exact hq
/-- the number of rows from each place on -/
def spM (σ : am_St) (S : List (List Int)) (xs : List Int) (p : Nat) : Prop := ∀ j : Nat, p ≤ j → j ≤ xs.length → σ.2.2 13 (j : Int) = (mt_ws S xs).getD j 0 ∧ σ.2.2 14 (j : Int) = (mt_us S xs).getD j 0
def ws_f (S : List (List Int)) (xs : List Int) (j : Nat) (acc : Int) (s : List Int) : Int := if s <+: xs.drop j then (acc + (mt_ws S xs).getD (j + s.length) 0) % 1000000 else acc
def us_f (S : List (List Int)) (xs : List Int) (j : Nat) (acc : Int) (s : List Int) : Int := if s <+: xs.drop j then acc + (mt_us S xs).getD (j + s.length) 0 else acc
theorem foldl_cg {α β : Type} {f g : β → α → β} : ∀ (l : List α) (b : β), (∀ b, ∀ a ∈ l, f b a = g b a) → l.foldl f b = l.foldl g b
  | [], _, _ => rfl
  | a :: l, b, h => by
    rw [List.foldl_cons, List.foldl_cons, h b a List.mem_cons_self]
    exact foldl_cg l _ (fun b x hx => h b x (List.mem_cons_of_mem _ hx))
theorem ws_at {S : List (List Int)} (h1 : ∀ s ∈ S, 1 ≤ s.length) {xs : List Int} {j : Nat} (hj : j < xs.length) : (mt_ws S xs).getD j 0 = S.foldl (ws_f S xs j) 0 := by
  have e := mt_ws_drop S xs j 0 (by omega)
  rw [Nat.add_zero] at e
  rw [← e, List.drop_eq_getElem_cons hj]
  show (S.foldl _ 0) = _
  refine foldl_cg S 0 (fun b s hs => ?_)
  have h1s := h1 s hs
  rw [← List.drop_eq_getElem_cons hj]
  have e2 := mt_ws_drop S xs (j + 1) (s.length - 1) (by omega)
  rw [show j + 1 + (s.length - 1) = j + s.length by omega] at e2
  rw [e2]
  unfold ws_f
  by_cases c : s <+: xs.drop j
  · rw [if_pos ⟨c, by omega⟩, if_pos c]
  · rw [if_neg (fun z => c z.1), if_neg c]
theorem us_cap {S : List (List Int)} {xs : List Int} {j : Nat} {g : Int → List Int → Int} (hg : ∀ b s, g b s = if s <+: xs.drop j then min 2 (b + (mt_us S xs).getD (j + s.length) 0) else b) : ∀ (l : List (List Int)) (a b : Int), b = min 2 a → l.foldl g b = min 2 (l.foldl (us_f S xs j) a)
  | [], a, b, h => h
  | s :: l, a, b, h => by
    rw [List.foldl_cons, List.foldl_cons]
    apply us_cap hg l
    rw [hg]
    unfold us_f
    have hb := mt_us_bd S xs (j + s.length)
    split
    · omega
    · exact h
theorem us_at {S : List (List Int)} (h1 : ∀ s ∈ S, 1 ≤ s.length) {xs : List Int} {j : Nat} (hj : j < xs.length) : (mt_us S xs).getD j 0 = min 2 (S.foldl (us_f S xs j) 0) := by
  have e := mt_us_drop S xs j 0 (by omega)
  rw [Nat.add_zero] at e
  rw [← e, List.drop_eq_getElem_cons hj]
  show (S.foldl _ 0) = _
  rw [← us_cap (S := S) (xs := xs) (j := j) (g := fun b s => if s <+: xs.drop j then min 2 (b + (mt_us S xs).getD (j + s.length) 0) else b) (fun b s => rfl) S 0 0 rfl]
  refine foldl_cg S 0 (fun b s hs => ?_)
  have h1s := h1 s hs
  rw [← List.drop_eq_getElem_cons hj]
  have e2 := mt_us_drop S xs (j + 1) (s.length - 1) (by omega)
  rw [show j + 1 + (s.length - 1) = j + s.length by omega] at e2
  rw [e2]
  by_cases c : s <+: xs.drop j
  · rw [if_pos ⟨c, by omega⟩, if_pos c]
  · rw [if_neg (fun z => c z.1), if_neg c]
theorem ws_fold_bd (S : List (List Int)) (xs : List Int) (j : Nat) : ∀ (l : List (List Int)) (a : Int), 0 ≤ a → a < 1000000 → 0 ≤ l.foldl (ws_f S xs j) a ∧ l.foldl (ws_f S xs j) a < 1000000
  | [], a, h0, h1 => ⟨h0, h1⟩
  | s :: l, a, h0, h1 => by
    rw [List.foldl_cons]
    have hb := mt_ws_bd S xs (j + s.length)
    apply ws_fold_bd S xs j l
    · unfold ws_f; split <;> omega
    · unfold ws_f; split <;> omega
theorem us_fold_bd (S : List (List Int)) (xs : List Int) (j : Nat) : ∀ (l : List (List Int)) (a : Int), 0 ≤ a → 0 ≤ l.foldl (us_f S xs j) a ∧ l.foldl (us_f S xs j) a ≤ a + 2 * (l.length : Int)
  | [], a, h0 => ⟨h0, by simp⟩
  | s :: l, a, h0 => by
    rw [List.foldl_cons, List.length_cons]
    have hb := mt_us_bd S xs (j + s.length)
    have hs : 0 ≤ us_f S xs j a s ∧ us_f S xs j a s ≤ a + 2 := by unfold us_f; split <;> omega
    have := us_fold_bd S xs j l _ hs.1
    push_cast
    omega
theorem mt_ws_last (S : List (List Int)) : ∀ xs : List Int, (mt_ws S xs).getD xs.length 0 = 1
  | [] => rfl
  | c :: t => by
    show (mt_ws S t).getD t.length 0 = 1
    exact mt_ws_last S t
theorem mt_us_last (S : List (List Int)) : ∀ xs : List Int, (mt_us S xs).getD xs.length 0 = 1
  | [] => rfl
  | c :: t => by
    show (mt_us S t).getD t.length 0 = 1
    exact mt_us_last S t
theorem am_sa_eq {σ : am_St} {k : Nat} {i v : Int} : (am_sa σ k i v).2.2 k i = v := by simp [am_sa]
theorem am_sa_ne {σ : am_St} {k k' : Nat} {i i' v : Int} (h : ¬ (k' = k ∧ i' = i)) : (am_sa σ k i v).2.2 k' i' = σ.2.2 k' i' := by
  show (if k' = k ∧ i' = i then v else σ.2.2 k' i') = _
  rw [if_neg h]
theorem ev_X11_layWays {σ : am_St} {L R : List (List Int)} {m : Nat} {xs : List Int} (h : tbM σ L R m) (hw : wkM σ xs) : am_Ev SH mX11_layWays 2 [.ref 0] σ (am_rV (fun σ2 => spM σ2 (mt_sg R m) xs 0 ∧ fr [] [13, 14] σ σ2)) := by
  have h8 := h.2.2.2.2.2.1
  have hSl := mt_sg_len R m
  have w4 := hw.2.2.2
  have hne := (okw_sg h.2.2.2.2.2.2.2.2 m).2
  have l4 := fun i => (h.sg i).2
  generalize hS : mt_sg R m = S at *
  have outer : ∀ (m2 : Nat) (i : Int) (o : Option Value) (σ1 : am_St), am_nl o = true → i + 1 < m2 → -1 ≤ i → i < xs.length → fr [] [13, 14] σ σ1 → spM σ1 S xs (i + 1).toNat → am_Go SH mX11_layWays 2 (am_rV (fun σ2 => spM σ2 S xs 0 ∧ fr [] [13, 14] σ σ2)) 27 [some (.ref 0), some (.int (iZ i)), o] [] σ1 := by
    intro m2
    induction m2 with
    | zero => intro i o σ1 _ hm h0; exact absurd hm (by omega)
    | succ m2 ih =>
      intro i o σ1 no hm h0 h1 ho hsp
      by_cases hneg : i < 0
      · have : i = -1 := by omega
        subst this
        refine go_iload_n dX11_layWays_27 rfl ?_
        refine go_if_lt (tgt := 151) dX11_layWays_28 (by decide) (by unfold inR; omega) (fun b28 => ?_) (fun b28 => ?_)
        · skip
          refine go_retV dX11_layWays_151 rfl ?_
          exact ⟨hsp, ho⟩
        · skip
          exact absurd hneg b28
      · obtain ⟨j, rfl⟩ : ∃ j : Nat, i = (j : Int) := ⟨i.toNat, by omega⟩
        have hj : j < xs.length := by omega
        rw [show ((j : Int) + 1).toNat = j + 1 by omega] at hsp
        have inner : ∀ (m3 : Nat) (k : Nat) (σ1 : am_St), S.length - k < m3 → k ≤ S.length → fr [] [13, 14] σ σ1 → spM σ1 S xs (j + 1) → σ1.2.2 13 (j : Int) = (S.take k).foldl (ws_f S xs j) 0 → σ1.2.2 14 (j : Int) = (S.take k).foldl (us_f S xs j) 0 → am_Go SH mX11_layWays 2 (am_rV (fun σ2 => spM σ2 S xs 0 ∧ fr [] [13, 14] σ σ2)) 47 [some (.ref 0), some (.int (iZ (j : Int))), some (.int (iZ (k : Int)))] [] σ1 := by
          intro m3
          induction m3 with
          | zero => intro k σ1 hm3; exact absurd hm3 (by omega)
          | succ m3 ih3 =>
            intro k σ1 hm3 hk ho hsp e13 e14
            have t1 := h.fr ho (by decide) (by decide)
            have w1 := hw.fr ho (by decide) (by decide)
            have b1 := ws_fold_bd S xs j (S.take k) 0 (by omega) (by omega)
            have b2 := us_fold_bd S xs j (S.take k) 0 (by omega)
            have hlk : (S.take k).length ≤ 8 := by rw [List.length_take]; omega
            have hl := fun (hk2 : k < R.length) => ev_X11_lies t1 hk2 w1 (show j ≤ xs.length by omega)
            have sl := fun (hk2 : k < R.length) => ev_X11_signLength t1 hk2
            rw [hS] at hl sl
            generalize hF : (S.take k).foldl (ws_f S xs j) 0 = F at *
            generalize hG : (S.take k).foldl (us_f S xs j) 0 = G at *
            have stp : k < S.length → (S.take (k + 1)).foldl (ws_f S xs j) 0 = ws_f S xs j F (S.getD k []) ∧ (S.take (k + 1)).foldl (us_f S xs j) 0 = us_f S xs j G (S.getD k []) := fun z => by
              rw [List.take_succ_eq_append_getElem z, List.foldl_append, List.foldl_append, hF, hG, getD_in z]; exact ⟨rfl, rfl⟩
            have h1k : k < S.length → 1 ≤ (S.getD k []).length := fun z => by rw [getD_in z]; exact hne _ (List.getElem_mem z)
            have l4k := l4 k
            by_cases hlt : k < S.length
            · have h1k := h1k hlt
              have stp := stp hlt
              by_cases hp : S.getD k [] <+: xs.drop j
              · have hle := hp.length_le
                rw [List.length_drop] at hle
                have hq := hsp (j + (S.getD k []).length) (by omega) (by omega)
                have bw := mt_ws_bd S xs (j + (S.getD k []).length)
                have bu := mt_us_bd S xs (j + (S.getD k []).length)
                have e1 : ws_f S xs j F (S.getD k []) = (F + (mt_ws S xs).getD (j + (S.getD k []).length) 0) % 1000000 := by unfold ws_f; rw [if_pos hp]
                have e2 : us_f S xs j G (S.getD k []) = G + (mt_us S xs).getD (j + (S.getD k []).length) 0 := by unfold us_f; rw [if_pos hp]
                rw [e1, e2] at stp
                push_cast at hq
                generalize hX : (mt_ws S xs).getD (j + (S.getD k []).length) 0 = X at *
                generalize hY : (mt_us S xs).getD (j + (S.getD k []).length) 0 = Y at *
                have f14 : (am_sa σ1 13 (j : Int) ((F + X) % 1000000)).2.2 14 (j : Int) = G := by rw [am_sa_ne (by omega)]; exact e14
                have f15 : (am_sa σ1 13 (j : Int) ((F + X) % 1000000)).2.2 14 ((j : Int) + ((S.getD k []).length : Int)) = Y := by rw [am_sa_ne (by omega)]; exact hq.2
                have sl2 := ev_X11_signLength (t1.fr (fs := []) (as := [13]) (fr_sa (k := 13) (i := (j : Int)) (v := (F + X) % 1000000) (by decide)) (by decide) (by decide)) (show k < R.length by omega)
                rw [hS] at sl2
                refine go_iload_n dX11_layWays_47 rfl ?_
                refine go_aload_n dX11_layWays_48 rfl ?_
                refine go_geti fl_X11_109 dX11_layWays_49 sh_0 rfl ?_
                rw [t1.1]
                refine go_icmp_ge (tgt := 119) dX11_layWays_52 (by decide) (by unfold inR; omega) (by unfold inR; omega) (fun b52 => ?_) (fun b52 => ?_)
                · skip
                  omega
                · skip
                  refine go_aload_n dX11_layWays_55 rfl ?_
                  refine go_iload_n dX11_layWays_56 rfl ?_
                  refine go_iload_n dX11_layWays_57 rfl ?_
                  refine go_cvP2 (M2 := mX11_lies) dX11_layWays_58 ml_X11_170 mv_X11_lies sh_0 rfl rfl (Nat.le_of_ble_eq_true rfl) (by decide) (hl (by omega)) ?_
                  rw [if_pos hp]
                  refine go_if_eq (tgt := 113) dX11_layWays_61 (by decide) (by unfold inR; omega) (fun b61 => ?_) (fun b61 => ?_)
                  · skip
                    exact absurd b61 (by decide)
                  · skip
                    refine go_aload_n dX11_layWays_64 rfl ?_
                    refine go_getr fl_X11_46 dX11_layWays_65 sh_0 rfl ?_
                    refine go_iload_n dX11_layWays_68 rfl ?_
                    refine go_aload_n dX11_layWays_69 rfl ?_
                    refine go_getr fl_X11_46 dX11_layWays_70 sh_0 rfl ?_
                    refine go_iload_n dX11_layWays_73 rfl ?_
                    refine go_iaload dX11_layWays_74 (by first | assumption | rfl) (by first | assumption | exact Nat.le_of_ble_eq_true rfl) (by omega) (by omega) ?_
                    rw [e13]
                    refine go_aload_n dX11_layWays_75 rfl ?_
                    refine go_getr fl_X11_46 dX11_layWays_76 sh_0 rfl ?_
                    refine go_iload_n dX11_layWays_79 rfl ?_
                    refine go_aload_n dX11_layWays_80 rfl ?_
                    refine go_iload_n dX11_layWays_81 rfl ?_
                    refine go_cvP1 (M2 := mX11_signLength) dX11_layWays_82 ml_X11_137 mv_X11_signLength sh_0 rfl rfl (Nat.le_of_ble_eq_true rfl) (by decide) (sl (by omega)) ?_
                    refine go_iadd dX11_layWays_85 ?_
                    refine go_iaload dX11_layWays_86 (by first | assumption | rfl) (by first | assumption | exact Nat.le_of_ble_eq_true rfl) (by omega) (by omega) ?_
                    rw [hq.1]
                    refine go_iadd dX11_layWays_87 ?_
                    refine go_ldc dX11_layWays_88 kc_X11_173 ?_
                    refine go_irem dX11_layWays_90 (by omega) (by unfold inR; omega) (by omega) (by unfold inR; omega) ?_
                    refine go_iastore dX11_layWays_91 (by first | assumption | rfl) (by first | assumption | exact Nat.le_of_ble_eq_true rfl) (by omega) (by omega) ?_
                    refine go_aload_n dX11_layWays_92 rfl ?_
                    refine go_getr fl_X11_49 dX11_layWays_93 sh_0 rfl ?_
                    refine go_iload_n dX11_layWays_96 rfl ?_
                    refine go_dup2 dX11_layWays_97 rfl rfl ?_
                    refine go_iaload dX11_layWays_98 (by first | assumption | rfl) (by first | assumption | exact Nat.le_of_ble_eq_true rfl) (by omega) (by omega) ?_
                    rw [f14]
                    refine go_aload_n dX11_layWays_99 rfl ?_
                    refine go_getr fl_X11_49 dX11_layWays_100 sh_0 rfl ?_
                    refine go_iload_n dX11_layWays_103 rfl ?_
                    refine go_aload_n dX11_layWays_104 rfl ?_
                    refine go_iload_n dX11_layWays_105 rfl ?_
                    refine go_cvP1 (M2 := mX11_signLength) dX11_layWays_106 ml_X11_137 mv_X11_signLength sh_0 rfl rfl (Nat.le_of_ble_eq_true rfl) (by decide) (sl2) ?_
                    refine go_iadd dX11_layWays_109 ?_
                    refine go_iaload dX11_layWays_110 (by first | assumption | rfl) (by first | assumption | exact Nat.le_of_ble_eq_true rfl) (by omega) (by omega) ?_
                    rw [f15]
                    refine go_iadd dX11_layWays_111 ?_
                    refine go_iastore dX11_layWays_112 (by first | assumption | rfl) (by first | assumption | exact Nat.le_of_ble_eq_true rfl) (by omega) (by omega) ?_
                    refine go_inc2 dX11_layWays_113 (Nat.le_of_ble_eq_true rfl) rfl ?_
                    refine go_goto (tgt := 47) dX11_layWays_116 (by decide) ?_
                    refine ih3 (k + 1) _ (by omega) (by omega) ((ho.tr (fr_sa (by decide))).tr (fr_sa (by decide))) ?_ ?_ ?_
                    · intro a a0 a1
                      rw [am_sa_ne (by omega), am_sa_ne (by omega), am_sa_ne (by omega), am_sa_ne (by omega)]
                      exact hsp a a0 a1
                    · rw [am_sa_ne (by omega), am_sa_eq, stp.1]
                    · rw [am_sa_eq, stp.2]
              · have e1 : ws_f S xs j F (S.getD k []) = F := by unfold ws_f; rw [if_neg hp]
                have e2 : us_f S xs j G (S.getD k []) = G := by unfold us_f; rw [if_neg hp]
                rw [e1, e2] at stp
                refine go_iload_n dX11_layWays_47 rfl ?_
                refine go_aload_n dX11_layWays_48 rfl ?_
                refine go_geti fl_X11_109 dX11_layWays_49 sh_0 rfl ?_
                rw [t1.1]
                refine go_icmp_ge (tgt := 119) dX11_layWays_52 (by decide) (by unfold inR; omega) (by unfold inR; omega) (fun b52 => ?_) (fun b52 => ?_)
                · skip
                  omega
                · skip
                  refine go_aload_n dX11_layWays_55 rfl ?_
                  refine go_iload_n dX11_layWays_56 rfl ?_
                  refine go_iload_n dX11_layWays_57 rfl ?_
                  refine go_cvP2 (M2 := mX11_lies) dX11_layWays_58 ml_X11_170 mv_X11_lies sh_0 rfl rfl (Nat.le_of_ble_eq_true rfl) (by decide) (hl (by omega)) ?_
                  rw [if_neg hp]
                  refine go_if_eq (tgt := 113) dX11_layWays_61 (by decide) (by unfold inR; omega) (fun b61 => ?_) (fun b61 => ?_)
                  · skip
                    refine go_inc2 dX11_layWays_113 (Nat.le_of_ble_eq_true rfl) rfl ?_
                    refine go_goto (tgt := 47) dX11_layWays_116 (by decide) ?_
                    exact ih3 (k + 1) _ (by omega) (by omega) ho hsp (by rw [stp.1]; exact e13) (by rw [stp.2]; exact e14)
                  · skip
                    exact absurd rfl b61
            · have hke : S.take k = S := List.take_of_length_le (by omega)
              rw [hke] at hF hG
              have u1 := ws_at hne hj
              have u2 := us_at hne hj
              rw [hF] at u1
              rw [hG] at u2
              refine go_iload_n dX11_layWays_47 rfl ?_
              refine go_aload_n dX11_layWays_48 rfl ?_
              refine go_geti fl_X11_109 dX11_layWays_49 sh_0 rfl ?_
              first | (rw [e14]) | skip
              rw [t1.1]
              refine go_icmp_ge (tgt := 119) dX11_layWays_52 (by decide) (by unfold inR; omega) (by unfold inR; omega) (fun b52 => ?_) (fun b52 => ?_)
              · skip
                refine go_aload_n dX11_layWays_119 rfl ?_
                refine go_getr fl_X11_49 dX11_layWays_120 sh_0 rfl ?_
                refine go_iload_n dX11_layWays_123 rfl ?_
                refine go_aload_n dX11_layWays_124 rfl ?_
                refine go_getr fl_X11_49 dX11_layWays_125 sh_0 rfl ?_
                refine go_iload_n dX11_layWays_128 rfl ?_
                refine go_iaload dX11_layWays_129 (by first | assumption | rfl) (by first | assumption | exact Nat.le_of_ble_eq_true rfl) (by omega) (by omega) ?_
                first | (rw [e14]) | skip
                refine go_iconst dX11_layWays_130 ?_
                refine go_icmp_le (tgt := 138) dX11_layWays_131 (by decide) (by unfold inR; omega) (by unfold inR; omega) (fun b131 => ?_) (fun b131 => ?_)
                · skip
                  refine go_aload_n dX11_layWays_138 rfl ?_
                  refine go_getr fl_X11_49 dX11_layWays_139 sh_0 rfl ?_
                  refine go_iload_n dX11_layWays_142 rfl ?_
                  refine go_iaload dX11_layWays_143 (by first | assumption | rfl) (by first | assumption | exact Nat.le_of_ble_eq_true rfl) (by omega) (by omega) ?_
                  first | (rw [e14]) | skip
                  refine go_iastore dX11_layWays_144 (by first | assumption | rfl) (by first | assumption | exact Nat.le_of_ble_eq_true rfl) (by omega) (by omega) ?_
                  refine go_inc1 dX11_layWays_145 (Nat.le_of_ble_eq_true rfl) rfl ?_
                  refine go_goto (tgt := 27) dX11_layWays_148 (by decide) ?_
                  refine ih ((j : Int) + -1) _ _ rfl (by omega) (by omega) (by omega) (ho.tr (fr_sa (by decide))) (fun a a0 a1 => ?_)
                  by_cases e : a = j
                  · subst e
                    rw [am_sa_ne (by omega), am_sa_eq, u1, u2]
                    exact ⟨e13, by omega⟩
                  · rw [am_sa_ne (by omega), am_sa_ne (by omega)]
                    exact hsp a (by omega) a1
                · skip
                  refine go_iconst dX11_layWays_134 ?_
                  refine go_goto (tgt := 144) dX11_layWays_135 (by decide) ?_
                  refine go_iastore dX11_layWays_144 (by first | assumption | rfl) (by first | assumption | exact Nat.le_of_ble_eq_true rfl) (by omega) (by omega) ?_
                  refine go_inc1 dX11_layWays_145 (Nat.le_of_ble_eq_true rfl) rfl ?_
                  refine go_goto (tgt := 27) dX11_layWays_148 (by decide) ?_
                  refine ih ((j : Int) + -1) _ _ rfl (by omega) (by omega) (by omega) (ho.tr (fr_sa (by decide))) (fun a a0 a1 => ?_)
                  by_cases e : a = j
                  · subst e
                    rw [am_sa_ne (by omega), am_sa_eq, u1, u2]
                    exact ⟨e13, by omega⟩
                  · rw [am_sa_ne (by omega), am_sa_ne (by omega)]
                    exact hsp a (by omega) a1
              · skip
                omega
        refine go_iload_n dX11_layWays_27 rfl ?_
        refine go_if_lt (tgt := 151) dX11_layWays_28 (by decide) (by unfold inR; omega) (fun b28 => ?_) (fun b28 => ?_)
        · skip
          exact absurd b28 hneg
        · skip
          refine go_aload_n dX11_layWays_31 rfl ?_
          refine go_getr fl_X11_46 dX11_layWays_32 sh_0 rfl ?_
          refine go_iload_n dX11_layWays_35 rfl ?_
          refine go_iconst dX11_layWays_36 ?_
          refine go_iastore dX11_layWays_37 (by first | assumption | rfl) (by first | assumption | exact Nat.le_of_ble_eq_true rfl) (by omega) (by omega) ?_
          refine go_aload_n dX11_layWays_38 rfl ?_
          refine go_getr fl_X11_49 dX11_layWays_39 sh_0 rfl ?_
          refine go_iload_n dX11_layWays_42 rfl ?_
          refine go_iconst dX11_layWays_43 ?_
          refine go_iastore dX11_layWays_44 (by first | assumption | rfl) (by first | assumption | exact Nat.le_of_ble_eq_true rfl) (by omega) (by omega) ?_
          refine go_iconst dX11_layWays_45 ?_
          refine go_ist2 dX11_layWays_46 (Nat.le_of_ble_eq_true rfl) rfl ?_
          refine inner (S.length + 1) 0 _ (by omega) (by omega) ((ho.tr (fr_sa (by decide))).tr (fr_sa (by decide))) ?_ ?_ ?_
          · intro a a0 a1
            rw [am_sa_ne (by omega), am_sa_ne (by omega), am_sa_ne (by omega), am_sa_ne (by omega)]
            exact hsp a a0 a1
          · rw [am_sa_ne (by omega), am_sa_eq]; rfl
          · rw [am_sa_eq]; rfl
  refine am_ev (by decide) [some (.ref 0), none, none] rfl (Nat.le_of_ble_eq_true rfl) ?_
  refine go_aload_n dX11_layWays_0 rfl ?_
  refine go_getr fl_X11_46 dX11_layWays_1 sh_0 rfl ?_
  refine go_aload_n dX11_layWays_4 rfl ?_
  refine go_geti fl_X11_167 dX11_layWays_5 sh_0 rfl ?_
  first | (rw [hw.1]) | (rw [(show (am_sa σ 13 (xs.length : Int) 1).1 0 21 = (xs.length : Int) from hw.1)]) | (rw [(show (am_sa (am_sa σ 13 (xs.length : Int) 1) 14 (xs.length : Int) 1).1 0 21 = (xs.length : Int) from hw.1)]) | skip
  refine go_iconst dX11_layWays_8 ?_
  refine go_iastore dX11_layWays_9 (by first | assumption | rfl) (by first | assumption | exact Nat.le_of_ble_eq_true rfl) (by omega) (by omega) ?_
  refine go_aload_n dX11_layWays_10 rfl ?_
  refine go_getr fl_X11_49 dX11_layWays_11 sh_0 rfl ?_
  refine go_aload_n dX11_layWays_14 rfl ?_
  refine go_geti fl_X11_167 dX11_layWays_15 sh_0 rfl ?_
  first | (rw [hw.1]) | (rw [(show (am_sa σ 13 (xs.length : Int) 1).1 0 21 = (xs.length : Int) from hw.1)]) | (rw [(show (am_sa (am_sa σ 13 (xs.length : Int) 1) 14 (xs.length : Int) 1).1 0 21 = (xs.length : Int) from hw.1)]) | skip
  refine go_iconst dX11_layWays_18 ?_
  refine go_iastore dX11_layWays_19 (by first | assumption | rfl) (by first | assumption | exact Nat.le_of_ble_eq_true rfl) (by omega) (by omega) ?_
  refine go_aload_n dX11_layWays_20 rfl ?_
  refine go_geti fl_X11_167 dX11_layWays_21 sh_0 rfl ?_
  first | (rw [hw.1]) | (rw [(show (am_sa σ 13 (xs.length : Int) 1).1 0 21 = (xs.length : Int) from hw.1)]) | (rw [(show (am_sa (am_sa σ 13 (xs.length : Int) 1) 14 (xs.length : Int) 1).1 0 21 = (xs.length : Int) from hw.1)]) | skip
  refine go_iconst dX11_layWays_24 ?_
  refine go_isub dX11_layWays_25 ?_
  refine go_ist1 dX11_layWays_26 (Nat.le_of_ble_eq_true rfl) rfl ?_
  refine outer (xs.length + 2) ((xs.length : Int) - 1) none _ rfl (by omega) (by omega) (by omega) ((fr_sa (by decide)).tr (fr_sa (by decide))) (fun a a0 a1 => ?_)
  have ea : a = xs.length := by omega
  subst ea
  rw [am_sa_ne (by omega), am_sa_eq, am_sa_eq]
  exact ⟨(mt_ws_last S xs).symm, (mt_us_last S xs).symm⟩
theorem spM.fr {σ σ' : am_St} {S : List (List Int)} {xs : List Int} {p : Nat} {fs as : List Nat} (h : spM σ S xs p) (ho : fr fs as σ σ') (h1 : 13 ∉ as) (h2 : 14 ∉ as) : spM σ' S xs p := fun j j0 j1 => by rw [ho.2 13 h1, ho.2 14 h2]; exact h j j0 j1
theorem ev_X11_waysNow {σ : am_St} {s : mS} (h : RepM σ s) : am_Ev SH mX11_waysNow 3 [.ref 0] σ (am_rI (fun x σ2 => x = m_ways s ∧ RepM σ2 s ∧ am_off XM σ σ2)) := by
  refine am_ev (by decide) [some (.ref 0)] rfl (Nat.le_of_ble_eq_true rfl) ?_
  refine go_aload_n dX11_waysNow_0 rfl ?_
  refine go_cvV0 (M2 := mX11_workText) dX11_waysNow_1 ml_X11_183 mv_X11_workText sh_0 rfl rfl (Nat.le_of_ble_eq_true rfl) (by decide) (ev_X11_workText h) (fun σ1 hq1 => ?_)
  have g1 := h.fr hq1.2 (by decide) (by decide)
  refine go_aload_n dX11_waysNow_4 rfl ?_
  refine go_cvV0 (M2 := mX11_layWays) dX11_waysNow_5 ml_X11_195 mv_X11_layWays sh_0 rfl rfl (Nat.le_of_ble_eq_true rfl) (by decide) (ev_X11_layWays g1.1 hq1.1) (fun σ2 hq2 => ?_)
  have e0 := (hq2.1 0 (by omega) (by omega)).1
  refine go_aload_n dX11_waysNow_8 rfl ?_
  refine go_getr fl_X11_46 dX11_waysNow_9 sh_0 rfl ?_
  refine go_iconst dX11_waysNow_12 ?_
  refine go_iaload dX11_waysNow_13 (by first | assumption | rfl) (by first | assumption | exact Nat.le_of_ble_eq_true rfl) (by omega) (by omega) ?_
  rw [show ((0 : Nat) : Int) = 0 from rfl] at e0
  rw [e0]
  refine go_retI dX11_waysNow_14 rfl ?_
  exact ⟨rfl, g1.fr hq2.2 (by decide) (by decide), ((hq1.2.wk (fs' := WKF) (as' := WKA) (by decide) (by decide)).tr (hq2.2.wk (by decide) (by decide))).off (by decide)⟩
theorem ev_X11_ways {σ : am_St} {s : mS} (h : RepM σ s) : am_Ev SH mX11_ways 4 [.ref 0] σ (am_rI (fun x σ2 => x = m_ways s ∧ RepM σ2 s ∧ am_off XM σ σ2)) := by
  refine am_ev (by decide) [some (.ref 0)] rfl (Nat.le_of_ble_eq_true rfl) ?_
  refine go_aload_n dX11_ways_0 rfl ?_
  refine go_cvI0 (M2 := mX11_waysNow) dX11_ways_1 ml_X11_198 mv_X11_waysNow sh_0 rfl rfl (Nat.le_of_ble_eq_true rfl) (by decide) (ev_X11_waysNow h) (fun x σ1 hq => ?_)
  refine go_retI dX11_ways_4 rfl ?_
  exact hq
