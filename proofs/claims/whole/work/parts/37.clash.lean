/-! ===== Clashes: find, value ===== -/
noncomputable def mt_rems (S : List (List Int)) : List (List Int) := @dite _ (∃ ws, rmA S ws) (Classical.propDecidable _) (fun h => Classical.choose h) (fun _ => [])
noncomputable def mt_cl (S : List (List Int)) : Option (List Int) := @dite _ (∃ t, Lst S [] t) (Classical.propDecidable _) (fun h => some (Classical.choose h)) (fun _ => none)
theorem sorted_uniq : ∀ (a b : List (List Int)), (∀ w, w ∈ a ↔ w ∈ b) → a.Pairwise (fun x y => encN x < encN y) → b.Pairwise (fun x y => encN x < encN y) → a = b
  | [], [], _, _, _ => rfl
  | [], y :: b, h, _, _ => absurd ((h y).mpr List.mem_cons_self) (by simp)
  | x :: a, [], h, _, _ => absurd ((h x).mp List.mem_cons_self) (by simp)
  | x :: a, y :: b, h, h1, h2 => by
    obtain ⟨p1, p2⟩ := List.pairwise_cons.mp h1
    obtain ⟨q1, q2⟩ := List.pairwise_cons.mp h2
    have exy : x = y := by
      rcases List.mem_cons.mp ((h x).mp List.mem_cons_self) with z | z
      · exact z
      · rcases List.mem_cons.mp ((h y).mpr List.mem_cons_self) with z2 | z2
        · exact z2.symm
        · have := p1 y z2; have := q1 x z; omega
    subst exy
    have : a = b := sorted_uniq a b (fun w => by
      constructor
      · intro hw
        rcases List.mem_cons.mp ((h w).mp (List.mem_cons_of_mem _ hw)) with z | z
        · have := p1 w hw; rw [z] at this; omega
        · exact z
      · intro hw
        rcases List.mem_cons.mp ((h w).mpr (List.mem_cons_of_mem _ hw)) with z | z
        · have := q1 w hw; rw [z] at this; omega
        · exact z) p2 q2
    rw [this]
theorem mt_rems_eq {S ws : List (List Int)} (h : rmA S ws) : mt_rems S = ws := by
  unfold mt_rems
  have hex : ∃ ws, rmA S ws := ⟨ws, h⟩
  rw [dif_pos hex]
  have hc := Classical.choose_spec hex
  exact sorted_uniq _ _ (fun w => (hc.1 w).trans (h.1 w).symm) hc.2 h.2
theorem mt_cl_some {S : List (List Int)} (hS : okS S) {t : List Int} (h : Lst S [] t) : mt_cl S = some t := by
  unfold mt_cl
  have hex : ∃ t, Lst S [] t := ⟨t, h⟩
  rw [dif_pos hex]
  exact congrArg some (h.uniq hS (Classical.choose_spec hex))
theorem mt_cl_none {S : List (List Int)} (h : ¬ Rem S []) : mt_cl S = none := by
  unfold mt_cl
  rw [dif_neg]
  rintro ⟨t, ht⟩
  exact h ht.1.rem
noncomputable def mt_clT (S : List (List Int)) : List Int := (mt_cl S).getD []
noncomputable def mt_one (S : List (List Int)) (w : Int) : List Int := match mt_cl S with
  | none => []
  | some t => mt_pick S t w
/-- what the class's Clashes (the cell 43) holds when it is known -/
def clsh (σ : am_St) (S : List (List Int)) : Prop := rmd σ 44 (mt_rems S) ∧ rmA S (mt_rems S) ∧ hold σ 47 56 (mt_clT S) ∧ hold σ 49 56 (mt_one S 0) ∧ hold σ 51 56 (mt_one S 1) ∧ (∀ t, mt_cl S = some t → spl σ 106 S t 0 ∧ t.length ≤ 56) ∧ (mt_cl S = none ↔ ¬ Rem S [])
def clB (σ : am_St) : Prop := (∃ ys, hold σ 45 25 ys) ∧ (∃ ys, hold σ 47 56 ys) ∧ (∃ ys, hold σ 49 56 ys) ∧ (∃ ys, hold σ 51 56 ys) ∧ (∀ i, i < 25 → ∃ ys, hold σ (54 + 2 * i) 56 ys) ∧ ∃ o, hold σ 104 56 o
def CLL : List Nat := List.range' 44 65
theorem CLL_mem {p : Nat} : p ∈ CLL ↔ 44 ≤ p ∧ p < 109 := by unfold CLL; rw [List.mem_range'_1]
theorem spl.off {σ σ' : am_St} {k : Nat} {S : List (List Int)} {xs : List Int} {p : Int} {ks : List Nat} (h : spl σ k S xs p) (ho : am_off ks σ σ') (h0 : k ∉ ks) (h1 : k + 1 ∉ ks) (h2 : k + 2 ∉ ks) : spl σ' k S xs p := ⟨((ho k h0).1 2).trans h.1, fun j a b c => by rw [(ho (k + 1) h1).2.2, (ho (k + 2) h2).2.2]; exact h.2 j a b c⟩
theorem go_cvV4 {sh : am_Sh} {M : am_M} {d : Nat} {Q : Option Value → am_St → Prop} {pc : Nat} {lv : List (Option Value)} {st : List Value} {σ : am_St} {M2 : am_M} {d2 idx : Nat} {P2 : am_St → Prop} {k ci : Nat} {ks : List Nat} {r0 : vw_C} {b1 b2 b3 b4 : Value} (hd : decode M.2.1 pc = .ok (.invokevirtual idx, 3)) (hL : Cond.methodLink M.1.cls idx M2.1 ∈ am_tbl) (hM : am_MV M2 4) (hk : sh[k]? = some (.inr (ci, ks))) (hci : am_cl[ci]? = some r0) (hcn : r0.1 = M2.1.cls) (hr : (st.map fun v => v.category).sum ≤ 8) (hdep : d2 < d) (hE : am_Ev sh M2 d2 (.ref k :: [b1, b2, b3, b4]) σ (am_rV P2)) (kk : ∀ σ2, P2 σ2 → am_Go sh M d Q (pc + 3) lv st σ2) : am_Go sh M d Q pc lv (b4 :: b3 :: b2 :: b1 :: .ref k :: st) σ :=
  go_callV (As := [b1, b2, b3, b4]) hd hL hM hk hci hcn rfl hr hdep hE (fun r σ2 hq => by obtain ⟨rfl, h⟩ := hq; exact kk σ2 h)
theorem ev_X0_find {σ : am_St} {ks n : Nat} {S : List (List Int)} (hS : okS S) (g : hold σ ks n (S.map enc)) (hks : ks + 1 < 40) (hb : clB σ) : am_Ev SH mX0_find 4 [.ref 43, .ref ks] σ (am_rV (fun σ2 => clsh σ2 S ∧ clB σ2 ∧ am_off CLL σ σ2)) := by
  obtain ⟨⟨y1, k1⟩, ⟨y2, k2⟩, ⟨y3, k3⟩, ⟨y4, k4⟩, k5, y6, k6⟩ := hb
  have h8 := hS.2.2
  refine am_ev (by decide) [some (.ref 43), some (.ref ks)] rfl (Nat.le_of_ble_eq_true rfl) ?_
  refine go_aload_n dX0_find_0 rfl ?_
  refine go_getr fl_X0_12 dX0_find_1 sh_43 rfl ?_
  refine go_aload_n dX0_find_4 rfl ?_
  refine go_cvV1 (M2 := mX5_gather) dX0_find_5 ml_X0_61 mv_X5_gather sh_44 rfl rfl (Nat.le_of_ble_eq_true rfl) (by decide) (ev_X5_gather sh_44 k1 g hS (by omega)) (fun σ1 hq1 => ?_)
  obtain ⟨ws, r1, r2, r3⟩ := hq1
  have r2e := mt_rems_eq r2
  refine go_aload_n dX0_find_8 rfl ?_
  refine go_getr fl_X0_23 dX0_find_9 sh_43 rfl ?_
  refine go_cvV0 (M2 := mX1_clear) dX0_find_12 ml_X0_65 mv_X1_clear k2.1 rfl rfl (Nat.le_of_ble_eq_true rfl) (by decide) (ev_X1_clear (k2.off r3 (by decide) (by decide))) (fun σ2 hq2 => ?_)
  refine go_aload_n dX0_find_15 rfl ?_
  refine go_getr fl_X0_27 dX0_find_16 sh_43 rfl ?_
  refine go_cvV0 (M2 := mX1_clear) dX0_find_19 ml_X0_65 mv_X1_clear k3.1 rfl rfl (Nat.le_of_ble_eq_true rfl) (by decide) (ev_X1_clear ((k3.off r3 (by decide) (by decide)).off hq2.2 (by decide) (by decide))) (fun σ3 hq3 => ?_)
  refine go_aload_n dX0_find_22 rfl ?_
  refine go_getr fl_X0_30 dX0_find_23 sh_43 rfl ?_
  refine go_cvV0 (M2 := mX1_clear) dX0_find_26 ml_X0_65 mv_X1_clear k4.1 rfl rfl (Nat.le_of_ble_eq_true rfl) (by decide) (ev_X1_clear (((k4.off r3 (by decide) (by decide)).off hq2.2 (by decide) (by decide)).off hq3.2 (by decide) (by decide))) (fun σ4 hq4 => ?_)
  have o14 : am_off [47, 48, 49, 50, 51, 52] σ1 σ4 := ((hq2.2.wk (by decide)).tr (hq3.2.wk (by decide))).tr (hq4.2.wk (by decide))
  have rm4 : rmd σ4 44 ws := r1.off o14 (by decide) (by decide) (by decide)
  have l4 : hold σ4 47 56 [] := (hq2.1.off hq3.2 (by decide) (by decide)).off hq4.2 (by decide) (by decide)
  have n4 : hold σ4 49 56 [] := hq3.1.off hq4.2 (by decide) (by decide)
  have oA : am_off CLL σ σ4 := (r3.wk (fun p hp => by rw [CLL_mem]; simp at hp; omega)).tr (o14.wk (fun p hp => by rw [CLL_mem]; simp at hp; omega))
  have tx4 : ∀ i, i < 25 → ∃ ys, hold σ4 (54 + 2 * i) 56 ys := fun i hi => by
    obtain ⟨ys, hy⟩ := k5 i hi
    exact ⟨ys, (hy.off r3 (by simp; omega) (by simp; omega)).off o14 (by simp; omega) (by simp; omega)⟩
  have of4 : hold σ4 104 56 y6 := (k6.off r3 (by decide) (by decide)).off o14 (by decide) (by decide)
  refine go_aload_n dX0_find_29 rfl ?_
  refine go_getr fl_X0_12 dX0_find_30 sh_43 rfl ?_
  refine go_cvP0 (M2 := mX5_areClean) dX0_find_33 ml_X0_54 mv_X5_areClean sh_44 rfl rfl (Nat.le_of_ble_eq_true rfl) (by decide) (ev_X5_areClean sh_44 rm4) ?_
  refine go_if_eq (tgt := 40) dX0_find_36 (by decide) (by unfold inR; split <;> omega) (fun b36 => ?_) (fun b36 => ?_)
  · skip
    have hin : ([] : List Int) ∈ ws := by
      apply Classical.byContradiction
      intro z
      rw [if_neg z] at b36
      omega
    have hwL : rmL S ws := ⟨r2.2.imp (fun {a b} hab e => by rw [e] at hab; omega), fun w hw => (r2.1 w).mp hw⟩
    have hpos : 0 < ws.length := List.length_pos_of_mem hin
    have h0 : ws[0] = [] := by
      obtain ⟨i, hi, ei⟩ := List.getElem_of_mem hin
      by_cases hi0 : i = 0
      · subst hi0; exact ei
      · have := List.pairwise_iff_getElem.mp r2.2 0 i hpos hi (by omega)
        rw [ei, encN_nil] at this
        have := (encN_bd (Rem_ok hS ((r2.1 _).mp (List.getElem_mem hpos))).1).1
        have := Nat.pow_pos (n := ws[0].length) (show 0 < 128 by decide)
        omega
    refine go_aload_n dX0_find_40 rfl ?_
    refine go_aload_n dX0_find_41 rfl ?_
    refine go_cvV1 (M2 := mX0_findTexts) dX0_find_42 ml_X0_68 mv_X0_findTexts sh_43 rfl rfl (Nat.le_of_ble_eq_true rfl) (by decide) (ev_X0_findTexts hS hwL r2.1 ((g.off r3 (by simp; omega) (by simp; omega)).off o14 (by simp; omega) (by simp; omega)) hks rm4.1 tx4 ⟨_, of4⟩) (fun σ5 hq5 => ?_)
    obtain ⟨τ, t1, t2, ⟨o5, t3⟩, t4⟩ := hq5
    have hL := t2 0 hpos
    rw [h0] at hL
    have ec := mt_cl_some hS hL
    have h56 := (t1 0 (by omega)).2.2.2.2.1
    refine go_aload_n dX0_find_45 rfl ?_
    refine go_getr fl_X0_23 dX0_find_46 sh_43 rfl ?_
    refine go_aload_n dX0_find_49 rfl ?_
    refine go_getr fl_X0_33 dX0_find_50 sh_43 rfl ?_
    refine go_iconst dX0_find_53 ?_
    refine go_aaload dX0_find_54 sh_53 (by first | assumption | exact Nat.le_of_ble_eq_true rfl) (by omega) (by omega) (tx_g (j := 0) (by decide)) ?_
    refine go_cvV1 (M2 := mX1_copy) dX0_find_55 ml_X0_71 mv_X1_copy k2.1 rfl rfl (Nat.le_of_ble_eq_true rfl) (by decide) (ev_X1_copy (l4.off t4 (by rw [TXO_mem]; omega) (by rw [TXO_mem]; omega)) (t1 0 (by omega)) h56 (by decide) (by decide) (by decide)) (fun σ6 hq6 => ?_)
    have oB : am_off TXO σ4 σ5 := t4
    have g6 : hold σ6 ks n (S.map enc) := (((g.off r3 (by simp; omega) (by simp; omega)).off o14 (by simp; omega) (by simp; omega)).off t4 (by rw [TXO_mem]; omega) (by rw [TXO_mem]; omega)).off hq6.2 (by simp; omega) (by simp; omega)
    refine go_aload_n dX0_find_58 rfl ?_
    refine go_getr fl_X0_43 dX0_find_59 sh_43 rfl ?_
    refine go_aload_n dX0_find_62 rfl ?_
    refine go_aload_n dX0_find_63 rfl ?_
    refine go_getr fl_X0_23 dX0_find_64 sh_43 rfl ?_
    refine go_cvV2 (M2 := mX7_weigh) dX0_find_67 ml_X0_74 mv_X7_weigh sh_106 rfl rfl (Nat.le_of_ble_eq_true rfl) (by decide) (ev_X7_weigh isSp_106 g6 hq6.1 hS.1 (by omega) h56 (by decide) (by omega) (by omega)) (fun σ7 hq7 => ?_)
    have n6 : hold σ7 49 56 [] := ((n4.off t4 (by rw [TXO_mem]; omega) (by rw [TXO_mem]; omega)).off hq6.2 (by decide) (by decide)).off hq7.2 (by decide) (by decide)
    have m6 : hold σ7 51 56 [] := ((hq4.1.off t4 (by rw [TXO_mem]; omega) (by rw [TXO_mem]; omega)).off hq6.2 (by decide) (by decide)).off hq7.2 (by decide) (by decide)
    have g7 : hold σ7 ks n (S.map enc) := g6.off hq7.2 (by simp; omega) (by simp; omega)
    have l7 : hold σ7 47 56 (τ 0) := hq6.1.off hq7.2 (by decide) (by decide)
    refine go_aload_n dX0_find_70 rfl ?_
    refine go_getr fl_X0_43 dX0_find_71 sh_43 rfl ?_
    refine go_aload_n dX0_find_74 rfl ?_
    refine go_aload_n dX0_find_75 rfl ?_
    refine go_getr fl_X0_23 dX0_find_76 sh_43 rfl ?_
    refine go_iconst dX0_find_79 ?_
    refine go_aload_n dX0_find_80 rfl ?_
    refine go_getr fl_X0_27 dX0_find_81 sh_43 rfl ?_
    refine go_cvV4 (M2 := mX7_pick) dX0_find_84 ml_X0_78 mv_X7_pick sh_106 rfl rfl (Nat.le_of_ble_eq_true rfl) (by decide) (ev_X7_pick isSp_106 g7 l7 n6 hS.1 (by omega) h56 h56 (by decide) hq7.1 (by omega) (by omega) (by decide) (by omega) (by decide)) (fun σ8 hq8 => ?_)
    refine go_aload_n dX0_find_87 rfl ?_
    refine go_getr fl_X0_43 dX0_find_88 sh_43 rfl ?_
    refine go_aload_n dX0_find_91 rfl ?_
    refine go_aload_n dX0_find_92 rfl ?_
    refine go_getr fl_X0_23 dX0_find_93 sh_43 rfl ?_
    refine go_iconst dX0_find_96 ?_
    refine go_aload_n dX0_find_97 rfl ?_
    refine go_getr fl_X0_30 dX0_find_98 sh_43 rfl ?_
    refine go_cvV4 (M2 := mX7_pick) dX0_find_101 ml_X0_78 mv_X7_pick sh_106 rfl rfl (Nat.le_of_ble_eq_true rfl) (by decide) (ev_X7_pick isSp_106 (g7.off hq8.2 (by simp; omega) (by simp; omega)) (l7.off hq8.2 (by decide) (by decide)) (m6.off hq8.2 (by decide) (by decide)) hS.1 (by omega) h56 h56 (by decide) (hq7.1.off hq8.2 (by decide) (by decide) (by decide)) (by omega) (by omega) (by decide) (by omega) (by decide)) (fun σ9 hq9 => ?_)
    refine go_retV dX0_find_104 rfl ?_
    have o69 : am_off [47, 48, 106, 107, 108, 49, 50, 51, 52] σ5 σ9 := (((hq6.2.wk (by decide)).tr (hq7.2.wk (by decide))).tr (hq8.2.wk (by decide))).tr (hq9.2.wk (by decide))
    have rm9 : rmd σ9 44 ws := (rm4.off t4 (by rw [TXO_mem]; omega) (by rw [TXO_mem]; omega) (by rw [TXO_mem]; omega)).off o69 (by decide) (by decide) (by decide)
    have l9 : hold σ9 47 56 (τ 0) := (l7.off hq8.2 (by decide) (by decide)).off hq9.2 (by decide) (by decide)
    have n9 : hold σ9 49 56 (mt_pick S (τ 0) 0) := hq8.1.off hq9.2 (by decide) (by decide)
    refine ⟨⟨by rw [r2e]; exact rm9, by rw [r2e]; exact r2, ?_, ?_, ?_, fun t ht => ?_, ⟨fun z => ?_, fun z => absurd hL.1.rem z⟩⟩, ⟨⟨_, rm9.1⟩, ⟨_, l9⟩, ⟨_, n9⟩, ⟨_, hq9.1⟩, fun i hi => ⟨_, (t1 i hi).off o69 (by simp; omega) (by simp; omega)⟩, _, t3.off o69 (by decide) (by decide)⟩, ?_⟩
    · unfold mt_clT; rw [ec]; exact l9
    · unfold mt_one; rw [ec]; exact n9
    · unfold mt_one; rw [ec]; exact hq9.1
    · rw [ec] at ht; have := Option.some.inj ht; subst this; exact ⟨(hq7.1.off hq8.2 (by decide) (by decide) (by decide)).off hq9.2 (by decide) (by decide) (by decide), h56⟩
    · rw [ec] at z; cases z
    · exact (oA.tr (t4.wk (fun p hp => by rw [TXO_mem] at hp; rw [CLL_mem]; omega))).tr (o69.wk (fun p hp => by rw [CLL_mem]; simp at hp; omega))
  · skip
    refine go_retV dX0_find_39 rfl ?_
    have hn : ([] : List Int) ∉ ws := fun z => by rw [if_pos z] at b36; exact b36 rfl
    have hnR : ¬ Rem S [] := fun z => hn ((r2.1 _).mpr z)
    have ec := mt_cl_none hnR
    refine ⟨⟨by rw [r2e]; exact rm4, by rw [r2e]; exact r2, ?_, ?_, ?_, fun t ht => ?_, ⟨fun _ => hnR, fun _ => ec⟩⟩, ⟨⟨_, rm4.1⟩, ⟨_, l4⟩, ⟨_, n4⟩, ⟨_, hq4.1⟩, tx4, _, of4⟩, oA⟩
    · unfold mt_clT; rw [ec]; exact l4
    · unfold mt_one; rw [ec]; exact n4
    · unfold mt_one; rw [ec]; exact hq4.1
    · rw [ec] at ht; cases ht
/-- the values of a table's clashes -/
noncomputable def mt_val (S : List (List Int)) (what : Int) : Int := if what = 5 then ((mt_rems S).length : Int) else match mt_cl S with
  | none => if what = 0 then 1 else -1
  | some t => if what = 0 then 0 else if what = 1 then (t.length : Int) else if what = 2 then ((mt_pick S t 0).length : Int) else if what = 3 then ((mt_pick S t 1).length : Int) else (mt_ws S t).getD 0 0
theorem ev_X0_value {σ : am_St} {S : List (List Int)} {what : Int} (h : clsh σ S) (h0 : 0 ≤ what) (h5 : what ≤ 5) : am_Ev SH mX0_value 1 [.ref 43, .int (iZ what)] σ (am_rI (fun x σ2 => x = mt_val S what ∧ σ2 = σ)) := by
  obtain ⟨k1, k2, k3, k4, k5, k6, k7⟩ := h
  have hmem : ([] : List Int) ∈ mt_rems S ↔ Rem S [] := k2.1 []
  have sw : ∀ t, mt_cl S = some t → 1 ≤ what → what ≤ 4 → am_Go SH mX0_value 1 (am_rI (fun x σ2 => x = mt_val S what ∧ σ2 = σ)) 48 [some (.ref 43), some (.int (iZ what))] [] σ := by
    intro t ht w1 w4
    have k6t := k6 t ht
    have e1 : mt_clT S = t := by unfold mt_clT; rw [ht]; rfl
    have e2 : ∀ w, mt_one S w = mt_pick S t w := fun w => by unfold mt_one; rw [ht]
    have hv : mt_val S what = if what = 1 then (t.length : Int) else if what = 2 then ((mt_pick S t 0).length : Int) else if what = 3 then ((mt_pick S t 1).length : Int) else (mt_ws S t).getD 0 0 := by
      unfold mt_val; rw [if_neg (by omega), ht]; dsimp only; rw [if_neg (by omega)]
    rw [hv]
    refine go_iload_n dX0_value_48 rfl ?_
    rcases (show what = 1 ∨ what = 2 ∨ what = 3 ∨ what = 4 by omega) with rfl | rfl | rfl | rfl
    · refine go_tswIn (tgt := 76) (off := 27) dX0_value_49 (by unfold inR; omega) (by omega) (by omega) (by rfl) (by decide) ?_
      refine go_aload_n dX0_value_76 rfl ?_
      refine go_getr fl_X0_23 dX0_value_77 sh_43 rfl ?_
      refine go_cvP0 (M2 := mX1_size) dX0_value_80 ml_X0_50 mv_X1_size k3.1 rfl rfl (Nat.le_of_ble_eq_true rfl) (by decide) (ev_X1_size k3) ?_
      refine go_retI dX0_value_83 rfl ?_
      exact ⟨by rw [e1]; rfl, rfl⟩
    · refine go_tswIn (tgt := 84) (off := 35) dX0_value_49 (by unfold inR; omega) (by omega) (by omega) (by rfl) (by decide) ?_
      refine go_aload_n dX0_value_84 rfl ?_
      refine go_getr fl_X0_27 dX0_value_85 sh_43 rfl ?_
      refine go_cvP0 (M2 := mX1_size) dX0_value_88 ml_X0_50 mv_X1_size k4.1 rfl rfl (Nat.le_of_ble_eq_true rfl) (by decide) (ev_X1_size k4) ?_
      refine go_retI dX0_value_91 rfl ?_
      exact ⟨by rw [e2]; rfl, rfl⟩
    · refine go_tswIn (tgt := 92) (off := 43) dX0_value_49 (by unfold inR; omega) (by omega) (by omega) (by rfl) (by decide) ?_
      refine go_aload_n dX0_value_92 rfl ?_
      refine go_getr fl_X0_30 dX0_value_93 sh_43 rfl ?_
      refine go_cvP0 (M2 := mX1_size) dX0_value_96 ml_X0_50 mv_X1_size k5.1 rfl rfl (Nat.le_of_ble_eq_true rfl) (by decide) (ev_X1_size k5) ?_
      refine go_retI dX0_value_99 rfl ?_
      exact ⟨by rw [e2]; rfl, rfl⟩
    · refine go_tswOut (tgt := 100) dX0_value_49 (by unfold inR; omega) (by omega) (by decide) ?_
      refine go_aload_n dX0_value_100 rfl ?_
      refine go_getr fl_X0_43 dX0_value_101 sh_43 rfl ?_
      refine go_cvP0 (M2 := mX7_total) dX0_value_104 ml_X0_58 mv_X7_total sh_106 rfl rfl (Nat.le_of_ble_eq_true rfl) (by decide) (ev_X7_total isSp_106 k6t.1) ?_
      refine go_retI dX0_value_107 rfl ?_
      exact ⟨rfl, rfl⟩
  refine am_ev (by decide) [some (.ref 43), some (.int (iZ (what)))] rfl (Nat.le_of_ble_eq_true rfl) ?_
  refine go_iload_n dX0_value_0 rfl ?_
  refine go_iconst dX0_value_1 ?_
  refine go_icmp_ne (tgt := 16) dX0_value_2 (by decide) (by unfold inR; omega) (by unfold inR; omega) (fun b2 => ?_) (fun b2 => ?_)
  · skip
    refine go_iload_n dX0_value_16 rfl ?_
    refine go_if_ne (tgt := 36) dX0_value_17 (by decide) (by unfold inR; omega) (fun b17 => ?_) (fun b17 => ?_)
    · skip
      refine go_aload_n dX0_value_36 rfl ?_
      refine go_getr fl_X0_12 dX0_value_37 sh_43 rfl ?_
      refine go_cvP0 (M2 := mX5_areClean) dX0_value_40 ml_X0_54 mv_X5_areClean sh_44 rfl rfl (Nat.le_of_ble_eq_true rfl) (by decide) (ev_X5_areClean sh_44 k1) ?_
      refine go_if_eq (tgt := 48) dX0_value_43 (by decide) (by unfold inR; split <;> omega) (fun b43 => ?_) (fun b43 => ?_)
      · skip
        cases hcl : mt_cl S with
        | none => rw [if_neg (fun z => (k7.mp hcl) (hmem.mp z))] at b43; omega
        | some t => exact sw t hcl (by omega) (by omega)
      · skip
        refine go_iconst dX0_value_46 ?_
        refine go_retI dX0_value_47 rfl ?_
        refine ⟨?_, rfl⟩
        have z : ([] : List Int) ∉ mt_rems S := fun z => by rw [if_pos z] at b43; exact b43 rfl
        unfold mt_val; rw [if_neg (by omega), k7.mpr (fun z2 => z (hmem.mpr z2))]; dsimp only; rw [if_neg b17]
    · skip
      refine go_aload_n dX0_value_20 rfl ?_
      refine go_getr fl_X0_12 dX0_value_21 sh_43 rfl ?_
      refine go_cvP0 (M2 := mX5_areClean) dX0_value_24 ml_X0_54 mv_X5_areClean sh_44 rfl rfl (Nat.le_of_ble_eq_true rfl) (by decide) (ev_X5_areClean sh_44 k1) ?_
      refine go_if_eq (tgt := 34) dX0_value_27 (by decide) (by unfold inR; split <;> omega) (fun b27 => ?_) (fun b27 => ?_)
      · skip
        refine go_iconst dX0_value_34 ?_
        refine go_retI dX0_value_35 rfl ?_
        refine ⟨?_, rfl⟩
        unfold mt_val; rw [if_neg (by omega)]
        by_cases z : ([] : List Int) ∈ mt_rems S
        · rw [if_pos z] at b27
          cases hcl : mt_cl S with
          | none => exact absurd (hmem.mp z) (k7.mp hcl)
          | some t => dsimp only; rw [if_pos b17] <;> omega
        · rw [if_neg z] at b27
          rw [k7.mpr (fun z2 => z (hmem.mpr z2))]; dsimp only; rw [if_pos b17] <;> omega
      · skip
        refine go_iconst dX0_value_30 ?_
        refine go_goto (tgt := 35) dX0_value_31 (by decide) ?_
        refine go_retI dX0_value_35 rfl ?_
        refine ⟨?_, rfl⟩
        unfold mt_val; rw [if_neg (by omega)]
        by_cases z : ([] : List Int) ∈ mt_rems S
        · rw [if_pos z] at b27
          cases hcl : mt_cl S with
          | none => exact absurd (hmem.mp z) (k7.mp hcl)
          | some t => dsimp only; rw [if_pos b17] <;> omega
        · rw [if_neg z] at b27
          rw [k7.mpr (fun z2 => z (hmem.mpr z2))]; dsimp only; rw [if_pos b17] <;> omega
  · skip
    refine go_aload_n dX0_value_5 rfl ?_
    refine go_getr fl_X0_12 dX0_value_6 sh_43 rfl ?_
    refine go_getr fl_X0_47 dX0_value_9 sh_44 rfl ?_
    refine go_cvP0 (M2 := mX1_size) dX0_value_12 ml_X0_50 mv_X1_size k1.1.1 rfl rfl (Nat.le_of_ble_eq_true rfl) (by decide) (ev_X1_size k1.1) ?_
    refine go_retI dX0_value_15 rfl ?_
    refine ⟨?_, rfl⟩
    rw [List.length_map]; unfold mt_val; rw [if_pos b2]
