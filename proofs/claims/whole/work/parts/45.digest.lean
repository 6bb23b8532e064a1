/-! ===== the class: digest ===== -/
def hs (h : Int) (vs : List Int) : Int := vs.foldl (fun a v => 31 * a + v) h
theorem hs_app (h : Int) (a b : List Int) : hs h (a ++ b) = hs (hs h a) b := by unfold hs; rw [List.foldl_append]
theorem hs_cons (h v : Int) (b : List Int) : hs h (v :: b) = hs (31 * h + v) b := rfl
theorem rg_drop {n i : Nat} (h : i < n) : (List.range n).drop i = i :: (List.range n).drop (i + 1) := by
  rw [List.drop_eq_getElem_cons (by rw [List.length_range]; exact h), List.getElem_range]
theorem ln_at_drop {xs : List Int} {i : Nat} (h : i < xs.length) : xs.drop i = ln_at xs (i : Int) :: xs.drop (i + 1) := by
  rw [List.drop_eq_getElem_cons h, ln_at_get (List.getElem?_eq_getElem h)]
theorem ev_X10_hashNumber {σ : am_St} {h v : Int} (hv : inR v) : am_Ev SH mX10_hashNumber 0 [.long (lZ h), .int (iZ v)] σ (am_rL (fun x σ2 => x = 31 * h + v ∧ σ2 = σ)) := by
  refine am_ev (by decide) [some (.long (lZ (h))), none, some (.int (iZ (v)))] rfl (Nat.le_of_ble_eq_true rfl) ?_
  refine go_ldc2 dX10_hashNumber_0 kc_X10_246 ?_
  refine go_lload_n dX10_hashNumber_3 rfl ?_
  refine go_lmul dX10_hashNumber_4 ?_
  refine go_iload_n dX10_hashNumber_5 rfl ?_
  refine go_i2l dX10_hashNumber_6 hv ?_
  refine go_ladd dX10_hashNumber_7 ?_
  refine go_retL dX10_hashNumber_8 rfl ?_
  exact ⟨rfl, rfl⟩
theorem ev_X10_hashLine {σ : am_St} {h : Int} {k n : Nat} {xs : List Int} (g : hold σ k n xs) : am_Ev SH mX10_hashLine 1 [.long (lZ h), .ref k] σ (am_rL (fun x σ2 => x = hs h xs ∧ σ2 = σ)) := by
  generalize hT : hs h xs = T
  have hlen : xs.length < 2147483648 := by have := g.2.2.1; have := g.2.2.2.2.1; omega
  have loop : ∀ (m : Nat) (i : Nat) (h' : Int), xs.length - i < m → i ≤ xs.length → hs h' (xs.drop i) = T → am_Go SH mX10_hashLine 1 (am_rL (fun x σ2 => x = T ∧ σ2 = σ)) 5 [some (.long (lZ h)), none, some (.ref k), some (.long (lZ h')), none, some (.int (iZ (i : Int)))] [] σ := by
    intro m
    induction m with
    | zero => intro i h' hm; exact absurd hm (by omega)
    | succ m ih =>
      intro i h' hm hi he
      refine go_iload dX10_hashLine_5 rfl ?_
      refine go_aload_n dX10_hashLine_7 rfl ?_
      refine go_cvP0 (M2 := mX1_size) dX10_hashLine_8 ml_X10_83 mv_X1_size g.1 rfl rfl (Nat.le_of_ble_eq_true rfl) (by decide) (ev_X1_size g) ?_
      refine go_icmp_ge (tgt := 31) dX10_hashLine_11 (by decide) (by unfold inR; omega) (by unfold inR; omega) (fun b11 => ?_) (fun b11 => ?_)
      · skip
        refine go_lload_n dX10_hashLine_31 rfl ?_
        refine go_retL dX10_hashLine_32 rfl ?_
        refine ⟨?_, rfl⟩
        rw [show i = xs.length by omega, List.drop_length] at he
        exact he
      · skip
        refine go_lload_n dX10_hashLine_14 rfl ?_
        refine go_aload_n dX10_hashLine_15 rfl ?_
        refine go_iload dX10_hashLine_16 rfl ?_
        refine go_cvP1 (M2 := mX1_at) dX10_hashLine_18 ml_X10_148 mv_X1_at g.1 rfl rfl (Nat.le_of_ble_eq_true rfl) (by decide) (ev_X1_at g (by unfold inR; omega)) ?_
        refine go_csL2 (M2 := mX10_hashNumber) dX10_hashLine_21 ml_X10_233 ms_X10_hashNumber (Nat.le_of_ble_eq_true rfl) (by decide) (ev_X10_hashNumber (ln_at_R g.2.2.2.2.2.2)) (fun x σ1 hx => ?_)
        obtain ⟨rfl, rfl⟩ := hx
        refine go_lst3 dX10_hashLine_24 (Nat.le_of_ble_eq_true rfl) rfl ?_
        refine go_inc5 dX10_hashLine_25 (Nat.le_of_ble_eq_true rfl) rfl ?_
        refine go_goto (tgt := 5) dX10_hashLine_28 (by decide) ?_
        refine ih (i + 1) _ (by omega) (by omega) ?_
        rw [ln_at_drop (by omega), hs_cons] at he
        exact he
  refine am_ev (by decide) [some (.long (lZ (h))), none, some (.ref k), none, none, none] rfl (Nat.le_of_ble_eq_true rfl) ?_
  refine go_lload_n dX10_hashLine_0 rfl ?_
  refine go_lst3 dX10_hashLine_1 (Nat.le_of_ble_eq_true rfl) rfl ?_
  refine go_iconst dX10_hashLine_2 ?_
  refine go_ist5 dX10_hashLine_3 (Nat.le_of_ble_eq_true rfl) rfl ?_
  exact loop (xs.length + 1) 0 h (by omega) (by omega) hT
theorem ev_charL {σ : am_St} {l : List Int} {p : Int} (h : okl l) (h4 : l.length ≤ 4) (hp : inR p) : am_Ev SH mX9_character 1 [.int (iZ (enc l)), .int (iZ p)] σ (am_rI (fun x σ2 => x = wd_char l p ∧ σ2 = σ)) := by
  have := ev_X9_character (σ := σ) (enc_inR h h4) hp
  rw [wd_char_enc h h4 p] at this
  exact this
theorem wd_char_at (l : List Int) (p : Int) : wd_char l p = ln_at l p := rfl
theorem okl_R {l : List Int} (h : okl l) : ∀ x ∈ l, inR x := fun x hx => by have := h x hx; unfold okc at this; unfold inR; omega
theorem ev_X10_hashWord {σ : am_St} {h : Int} {l : List Int} (hl : okl l) (h4 : l.length ≤ 4) : am_Ev SH mX10_hashWord 2 [.long (lZ h), .int (iZ (enc l))] σ (am_rL (fun x σ2 => x = hs h l ∧ σ2 = σ)) := by
  generalize hT : hs h l = T
  have loop : ∀ (m : Nat) (i : Nat) (h' : Int), l.length - i < m → i ≤ l.length → hs h' (l.drop i) = T → am_Go SH mX10_hashWord 2 (am_rL (fun x σ2 => x = T ∧ σ2 = σ)) 11 [some (.long (lZ h)), none, some (.int (iZ (enc l))), some (.long (lZ h')), none, some (.int (iZ (l.length : Int))), some (.int (iZ (i : Int)))] [] σ := by
    intro m
    induction m with
    | zero => intro i h' hm; exact absurd hm (by omega)
    | succ m ih =>
      intro i h' hm hi he
      refine go_iload dX10_hashWord_11 rfl ?_
      refine go_iload dX10_hashWord_13 rfl ?_
      refine go_icmp_ge (tgt := 35) dX10_hashWord_15 (by decide) (by unfold inR; omega) (by unfold inR; omega) (fun b15 => ?_) (fun b15 => ?_)
      · skip
        refine go_lload_n dX10_hashWord_35 rfl ?_
        refine go_retL dX10_hashWord_36 rfl ?_
        refine ⟨?_, rfl⟩
        rw [show i = l.length by omega, List.drop_length] at he
        exact he
      · skip
        refine go_lload_n dX10_hashWord_18 rfl ?_
        refine go_iload_n dX10_hashWord_19 rfl ?_
        refine go_iload dX10_hashWord_20 rfl ?_
        refine go_csP2 (M2 := mX9_character) dX10_hashWord_22 ml_X10_164 ms_X9_character (Nat.le_of_ble_eq_true rfl) (by decide) (ev_charL hl h4 (by unfold inR; omega)) ?_
        refine go_csL2 (M2 := mX10_hashNumber) dX10_hashWord_25 ml_X10_233 ms_X10_hashNumber (Nat.le_of_ble_eq_true rfl) (by decide) (ev_X10_hashNumber (by rw [wd_char_at]; exact ln_at_R (okl_R hl))) (fun x σ1 hx => ?_)
        obtain ⟨rfl, rfl⟩ := hx
        refine go_lst3 dX10_hashWord_28 (Nat.le_of_ble_eq_true rfl) rfl ?_
        refine go_inc6 dX10_hashWord_29 (Nat.le_of_ble_eq_true rfl) rfl ?_
        refine go_goto (tgt := 11) dX10_hashWord_32 (by decide) ?_
        refine ih (i + 1) _ (by omega) (by omega) ?_
        rw [ln_at_drop (by omega), hs_cons] at he
        exact he
  refine am_ev (by decide) [some (.long (lZ (h))), none, some (.int (iZ (enc l))), none, none, none, none] rfl (Nat.le_of_ble_eq_true rfl) ?_
  refine go_lload_n dX10_hashWord_0 rfl ?_
  refine go_lst3 dX10_hashWord_1 (Nat.le_of_ble_eq_true rfl) rfl ?_
  refine go_iload_n dX10_hashWord_2 rfl ?_
  refine go_csP1 (M2 := mX9_size) dX10_hashWord_3 ml_X10_152 ms_X9_size (Nat.le_of_ble_eq_true rfl) (by decide) (ev_X9_size (enc_inR hl h4)) ?_
  rw [wd_sz_enc hl h4]
  refine go_ist5 dX10_hashWord_6 (Nat.le_of_ble_eq_true rfl) rfl ?_
  refine go_iconst dX10_hashWord_8 ?_
  refine go_ist6 dX10_hashWord_9 (Nat.le_of_ble_eq_true rfl) rfl ?_
  exact loop (l.length + 1) 0 h (by omega) (by omega) hT
def m_ruV (s : mS) (i : Nat) : List Int := (List.range 5).map (fun w : Nat => m_rule s i (w : Int)) ++ (s.1.getD i [] ++ (mt_sg s.2.1 s.2.2.1).getD i [])
def m_rulesV (s : mS) : List Int := (List.range s.2.1.length).flatMap (m_ruV s)
theorem okr_get {R : List (List Int)} (h : okr R) (i : Nat) : okl (R.getD i []) ∧ (R.getD i []).length ≤ 3 := by
  by_cases hi : i < R.length
  · have e : R.getD i [] = R[i] := by simp [List.getD, hi]
    rw [e]
    have := h _ (List.getElem_mem hi)
    exact ⟨this.1, this.2.2⟩
  · have e : R.getD i [] = [] := by simp [List.getD, hi]
    rw [e]
    exact ⟨(fun c hc => nomatch hc), Nat.zero_le _⟩
theorem m_rule_R {s : mS} (h : tabOK s.1 s.2.1 s.2.2.1) (r w : Int) : inR (m_rule s r w) := by
  have h1 := (okr_get h.2.2.2.1 r.toNat).2
  have h2 := (okr_get h.2.2.2.2 r.toNat).2
  have h3 := mt_ob_bd ((mt_sg s.2.1 s.2.2.1).getD r.toNat []) (mt_sg s.2.1 s.2.2.1) 0 r
  have h4 := mt_ob_bd (s.1.getD r.toNat []) s.1 0 r
  have h5 := h.1
  have h6 := h.2.1
  rw [mt_sg_len] at h3
  unfold m_rule inR
  split
  · omega
  · split
    · omega
    · split
      · omega
      · split
        · omega
        · split
          · omega
          · split
            · omega
            · omega
theorem ev_X10_hashRules {σ : am_St} {s : mS} {h : Int} (g : RepC σ s) : am_Ev SH mX10_hashRules 4 [.ref 21, .long (lZ h)] σ (am_rL (fun x σ2 => x = hs h (m_rulesV s) ∧ σ2 = σ)) := by
  generalize hT : hs h (m_rulesV s) = T
  have hr := g.1
  have ht := hr.2.2.2.2
  have hw := (okw_sg ht.2.2.2.2 s.2.2.1).1
  have h8 := ht.2.1
  have loop : ∀ (m : Nat) (i : Nat) (h' : Int) (o : Option Value), am_nl o = true → s.2.1.length - i < m → i ≤ s.2.1.length → hs h' (((List.range s.2.1.length).drop i).flatMap (m_ruV s)) = T → am_Go SH mX10_hashRules 4 (am_rL (fun x σ2 => x = T ∧ σ2 = σ)) 5 [some (.ref 21), some (.long (lZ h)), none, some (.long (lZ h')), none, some (.int (iZ (i : Int))), o] [] σ := by
    intro m
    induction m with
    | zero => intro i h' o _ hm; exact absurd hm (by omega)
    | succ m ih =>
      intro i h' o ho hm hi he
      have inner : i < s.2.1.length → ∀ (m2 : Nat) (w : Nat) (h2 : Int), 5 - w < m2 → w ≤ 5 → hs h2 (((List.range 5).drop w).map (fun w : Nat => m_rule s i (w : Int)) ++ ((s.1.getD i [] ++ (mt_sg s.2.1 s.2.2.1).getD i []) ++ ((List.range s.2.1.length).drop (i + 1)).flatMap (m_ruV s))) = T → am_Go SH mX10_hashRules 4 (am_rL (fun x σ2 => x = T ∧ σ2 = σ)) 20 [some (.ref 21), some (.long (lZ h)), none, some (.long (lZ h2)), none, some (.int (iZ (i : Int))), some (.int (iZ (w : Int)))] [] σ := by
        intro hlt m2
        induction m2 with
        | zero => intro w h2 hm2; exact absurd hm2 (by omega)
        | succ m2 ih2 =>
          intro w h2 hm2 hw5 he2
          have cL := okr_get ht.2.2.2.1 i
          have cS := okw_get hw i
          have e1 : ln_at (s.1.map enc) (i : Int) = enc (s.1.getD i []) := ln_at_map (by omega) (by have := ht.1; omega)
          have e2 : ln_at ((mt_sg s.2.1 s.2.2.1).map enc) (i : Int) = enc ((mt_sg s.2.1 s.2.2.1).getD i []) := ln_at_map (by omega) (by rw [mt_sg_len]; omega)
          refine go_iload dX10_hashRules_20 rfl ?_
          refine go_iconst dX10_hashRules_22 ?_
          refine go_icmp_gt (tgt := 45) dX10_hashRules_23 (by decide) (by unfold inR; omega) (by unfold inR; omega) (fun b23 => ?_) (fun b23 => ?_)
          · skip
            refine go_lload_n dX10_hashRules_45 rfl ?_
            refine go_aload_n dX10_hashRules_46 rfl ?_
            refine go_getr fl_X10_10 dX10_hashRules_47 sh_21 rfl ?_
            refine go_getr fl_X10_118 dX10_hashRules_50 sh_22 rfl ?_
            refine go_iload dX10_hashRules_53 rfl ?_
            refine go_cvP1 (M2 := mX1_at) dX10_hashRules_55 ml_X10_148 mv_X1_at hr.1.1 rfl rfl (Nat.le_of_ble_eq_true rfl) (by decide) (ev_X1_at hr.1 (by unfold inR; omega)) ?_
            rw [e1]
            refine go_csL2 (M2 := mX10_hashWord) dX10_hashRules_58 ml_X10_243 ms_X10_hashWord (Nat.le_of_ble_eq_true rfl) (by decide) (ev_X10_hashWord cL.1 (by omega)) (fun x σ1 hx => ?_)
            obtain ⟨rfl, rfl⟩ := hx
            refine go_lst3 dX10_hashRules_61 (Nat.le_of_ble_eq_true rfl) rfl ?_
            refine go_lload_n dX10_hashRules_62 rfl ?_
            refine go_aload_n dX10_hashRules_63 rfl ?_
            refine go_getr fl_X10_10 dX10_hashRules_64 sh_21 rfl ?_
            refine go_getr fl_X10_157 dX10_hashRules_67 sh_22 rfl ?_
            refine go_iload dX10_hashRules_70 rfl ?_
            refine go_cvP1 (M2 := mX1_at) dX10_hashRules_72 ml_X10_148 mv_X1_at hr.2.2.1.1 rfl rfl (Nat.le_of_ble_eq_true rfl) (by decide) (ev_X1_at hr.2.2.1 (by unfold inR; omega)) ?_
            rw [e2]
            refine go_csL2 (M2 := mX10_hashWord) dX10_hashRules_75 ml_X10_243 ms_X10_hashWord (Nat.le_of_ble_eq_true rfl) (by decide) (ev_X10_hashWord cS.1 cS.2) (fun x σ1 hx => ?_)
            obtain ⟨rfl, rfl⟩ := hx
            refine go_lst3 dX10_hashRules_78 (Nat.le_of_ble_eq_true rfl) rfl ?_
            refine go_inc5 dX10_hashRules_79 (Nat.le_of_ble_eq_true rfl) rfl ?_
            refine go_goto (tgt := 5) dX10_hashRules_82 (by decide) ?_
            refine ih (i + 1) _ _ rfl (by omega) (by omega) ?_
            rw [show w = 5 by omega] at he2
            simp only [hs_app] at he2
            exact he2
          · skip
            refine go_lload_n dX10_hashRules_26 rfl ?_
            refine go_aload_n dX10_hashRules_27 rfl ?_
            refine go_iload dX10_hashRules_28 rfl ?_
            refine go_iload dX10_hashRules_30 rfl ?_
            refine go_cvP2 (M2 := mX10_rule) dX10_hashRules_32 ml_X10_240 mv_X10_rule sh_21 rfl rfl (Nat.le_of_ble_eq_true rfl) (by decide) (ev_X10_rule g (by unfold inR; omega) (by unfold inR; omega)) ?_
            refine go_csL2 (M2 := mX10_hashNumber) dX10_hashRules_35 ml_X10_233 ms_X10_hashNumber (Nat.le_of_ble_eq_true rfl) (by decide) (ev_X10_hashNumber (m_rule_R ht _ _)) (fun x σ1 hx => ?_)
            obtain ⟨rfl, rfl⟩ := hx
            refine go_lst3 dX10_hashRules_38 (Nat.le_of_ble_eq_true rfl) rfl ?_
            refine go_inc6 dX10_hashRules_39 (Nat.le_of_ble_eq_true rfl) rfl ?_
            refine go_goto (tgt := 20) dX10_hashRules_42 (by decide) ?_
            refine ih2 (w + 1) _ (by omega) (by omega) ?_
            rw [rg_drop (by omega), List.map_cons, List.cons_append, hs_cons] at he2
            exact he2
      refine go_iload dX10_hashRules_5 rfl ?_
      refine go_aload_n dX10_hashRules_7 rfl ?_
      refine go_getr fl_X10_10 dX10_hashRules_8 sh_21 rfl ?_
      refine go_cvP0 (M2 := mX6_size) dX10_hashRules_11 ml_X10_114 mv_X6_size sh_22 rfl rfl (Nat.le_of_ble_eq_true rfl) (by decide) (ev_X6_size hr) ?_
      refine go_icmp_ge (tgt := 85) dX10_hashRules_14 (by decide) (by unfold inR; omega) (by unfold inR; omega) (fun b14 => ?_) (fun b14 => ?_)
      · skip
        refine go_lload_n dX10_hashRules_85 rfl ?_
        refine go_retL dX10_hashRules_86 rfl ?_
        refine ⟨?_, rfl⟩
        rw [show i = s.2.1.length by omega, List.drop_eq_nil_of_le (by rw [List.length_range]; exact Nat.le_refl _)] at he
        exact he
      · skip
        refine go_iconst dX10_hashRules_17 ?_
        refine go_ist6 dX10_hashRules_18 (Nat.le_of_ble_eq_true rfl) rfl ?_
        refine inner (by omega) 6 0 h' (by omega) (by omega) ?_
        rw [rg_drop (by omega), List.flatMap_cons, show m_ruV s i = (List.range 5).map (fun w : Nat => m_rule s i (w : Int)) ++ (s.1.getD i [] ++ (mt_sg s.2.1 s.2.2.1).getD i []) from rfl, List.append_assoc] at he
        exact he
  refine am_ev (by decide) [some (.ref 21), some (.long (lZ (h))), none, none, none, none, none] rfl (Nat.le_of_ble_eq_true rfl) ?_
  refine go_lload_n dX10_hashRules_0 rfl ?_
  refine go_lst3 dX10_hashRules_1 (Nat.le_of_ble_eq_true rfl) rfl ?_
  refine go_iconst dX10_hashRules_2 ?_
  refine go_ist5 dX10_hashRules_3 (Nat.le_of_ble_eq_true rfl) rfl ?_
  exact loop (s.2.1.length + 1) 0 h none rfl (by omega) (by omega) hT
