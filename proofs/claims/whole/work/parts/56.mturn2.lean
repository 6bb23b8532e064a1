/-! ===== the reference: turn, text, mark, drop ===== -/
theorem mt_spell_ok {S : List (List Int)} (hS : okw S) (rs : List Int) : okl (mt_spell S rs) := by
  intro c hc
  obtain ⟨r, _, hr⟩ := List.mem_flatMap.mp hc
  exact (okw_get hS r.toNat).1 c hr
theorem mt_spell_cons (S : List (List Int)) (r : Int) (rs : List Int) : mt_spell S (r :: rs) = S.getD r.toNat [] ++ mt_spell S rs := rfl
theorem RepM_swap {σ σ' : am_St} {s : mS} {t p : List Int} {a b c : Int} {fs as : List Nat} (h : RepM σ s) (ho : fr fs as σ σ') (h1 : ∀ p ∈ [0, 5, 6, 29], p ∉ fs) (h2 : ∀ p ∈ [1, 2, 3, 4], p ∉ as) (ht : σ'.1 0 7 = (t.length : Int) ∧ arA σ' 5 t ∧ okl t ∧ t.length ≤ 56) (hp : σ'.1 0 9 = (p.length : Int) ∧ arA σ' 6 p ∧ okl p ∧ p.length ≤ 56) (ha : σ'.1 0 11 = a) (hb : σ'.1 0 12 = b) (hc : σ'.1 0 13 = c) : RepM σ' (s.1, s.2.1, s.2.2.1, t, p, a, b, c) :=
  ⟨h.1.fr ho (fun p hp => h1 p (by revert p; decide)) h2, by rw [ho.f 5 (h1 5 (by decide))]; exact h.2.1, ht, hp, ha, hb, hc, by rw [ho.f 29 (h1 29 (by decide))]; exact h.2.2.2.2.2.2.2⟩
theorem arA_nil {σ : am_St} {k : Nat} : arA σ k [] := fun j hj => absurd hj (by simp)
theorem okl_nil : okl [] := fun c hc => nomatch hc
theorem ev_X11_turn {σ : am_St} {s : mS} (h : RepM σ s) : am_Ev SH mX11_turn 3 [.ref 0] σ (am_rI (fun x σ2 => x = (m_turn s).1 ∧ RepM σ2 (m_turn s).2 ∧ am_off XM σ σ2)) := by
  have hrep := h
  obtain ⟨h1, h2, h3, ⟨p1, p2, p3, p4⟩, h5⟩ := h
  have hxs : m_turn s = m_turn s := rfl
  generalize he : s.2.2.2.2.1 = xs at p1 p2 p3 p4
  have hS := (okw_sg h1.2.2.2.2.2.2.2.2 s.2.2.1).1
  have hlr := h1.2.2.2.2.1
  have h8 := h1.2.2.2.2.2.1
  have hml := mt_len s.1 xs.length xs 0
  have tr := fun z => ev_X11_turnRow h1 p1 p2 p3 z
  have hend := mt_dec_end s.1 xs.length xs 0
  have mt : m_turn s = if 12 < xs.length ∨ ¬ xs.all isSm = true then (-103, s) else if (mt_dec s.1 xs.length xs 0).2 < xs.length then (-1000 - (mt_dec s.1 xs.length xs 0).2, s) else (((mt_dec s.1 xs.length xs 0).1.length : Int), (s.1, s.2.1, s.2.2.1, mt_spell (mt_sg s.2.1 s.2.2.1) (mt_dec s.1 xs.length xs 0).1, [], s.2.2.2.2.2.1, s.2.2.2.2.2.2.1 + 1, s.2.2.2.2.2.2.2)) := by unfold m_turn; rw [he]
  generalize hT : mt_dec s.1 xs.length xs 0 = T at *
  have hfl := mt_spell_len hS T.1
  have hfo := mt_spell_ok hS T.1
  generalize hF : mt_spell (mt_sg s.2.1 s.2.2.1) T.1 = F at *
  have loop : xs.length ≤ 12 → m_turn s = ((T.1.length : Int), (s.1, s.2.1, s.2.2.1, F, [], s.2.2.2.2.2.1, s.2.2.2.2.2.2.1 + 1, s.2.2.2.2.2.2.2)) → ∀ (σ0 : am_St), σ0.1 0 19 = (T.1.length : Int) → arA σ0 11 T.1 → fr [19, 7] [11] σ σ0 → ∀ (m2 : Nat) (k : Nat) (txt : List Int) (w : Int) (o : Option Value) (σ1 : am_St), am_nl o = true → T.1.length - k < m2 → k ≤ T.1.length → txt ++ mt_spell (mt_sg s.2.1 s.2.2.1) (T.1.drop k) = F → σ1.1 0 7 = (txt.length : Int) → arA σ1 5 txt → fr [7] [5] σ0 σ1 → am_Go SH mX11_turn 3 (am_rI (fun x σ2 => x = (m_turn s).1 ∧ RepM σ2 (m_turn s).2 ∧ am_off XM σ σ2)) 33 [some (.ref 0), some (.int (iZ w)), some (.int (iZ (k : Int))), o] [] σ1 := by
    intro h12 hmt σ0 r1 r2 ho0 m2
    induction m2 with
    | zero => intro k txt w o σ1 _ hm; exact absurd hm (by omega)
    | succ m2 ih =>
      intro k txt w o σ1 no hm hk hF1 x1 x2 ho1
      have r11 : σ1.1 0 19 = (T.1.length : Int) := by rw [ho1.f 19 (by decide)]; exact r1
      have r12 := r2.fr ho1 (by decide)
      have t1 : tbM σ1 s.1 s.2.1 s.2.2.1 := (h1.fr ho0 (by decide) (by decide)).fr ho1 (by decide) (by decide)
      have inner : k < T.1.length → ∀ (m3 : Nat) (i : Nat) (txt : List Int) (σ1 : am_St), ((mt_sg s.2.1 s.2.2.1).getD (ln_at T.1 (k : Int)).toNat []).length - i < m3 → i ≤ ((mt_sg s.2.1 s.2.2.1).getD (ln_at T.1 (k : Int)).toNat []).length → txt ++ (((mt_sg s.2.1 s.2.2.1).getD (ln_at T.1 (k : Int)).toNat []).drop i ++ mt_spell (mt_sg s.2.1 s.2.2.1) (T.1.drop (k + 1))) = F → σ1.1 0 7 = (txt.length : Int) → arA σ1 5 txt → fr [7] [5] σ0 σ1 → am_Go SH mX11_turn 3 (am_rI (fun x σ2 => x = (m_turn s).1 ∧ RepM σ2 (m_turn s).2 ∧ am_off XM σ σ2)) 43 [some (.ref 0), some (.int (iZ w)), some (.int (iZ (k : Int))), some (.int (iZ (i : Int)))] [] σ1 := by
        intro hlt m3
        have hrR : 0 ≤ ln_at T.1 (k : Int) ∧ ln_at T.1 (k : Int) < s.1.length := by
          rw [ln_at_get (List.getElem?_eq_getElem hlt)]; exact hml.2 _ (List.getElem_mem hlt)
        obtain ⟨r, hr⟩ : ∃ r : Nat, ln_at T.1 (k : Int) = (r : Int) := ⟨(ln_at T.1 (k : Int)).toNat, by omega⟩
        rw [hr, Int.toNat_natCast]
        have hrl : r < s.2.1.length := by omega
        induction m3 with
        | zero => intro i txt σ1 hm3; exact absurd hm3 (by omega)
        | succ m3 ih3 =>
          intro i txt σ1 hm3 hi hF2 x1 x2 ho1
          have t1 : tbM σ1 s.1 s.2.1 s.2.2.1 := (h1.fr ho0 (by decide) (by decide)).fr ho1 (by decide) (by decide)
          have r12 := r2.fr ho1 (by decide)
          have e50 : σ1.2.2 11 (k : Int) = (r : Int) := by rw [r12 k hlt, hr]
          have hcap : i < ((mt_sg s.2.1 s.2.2.1).getD r []).length → txt.length < F.length := fun z => by
            rw [← hF2]; simp only [List.length_append, List.length_drop]; omega
          have h4 := (t1.sg r).2
          refine go_iload_n dX11_turn_43 rfl ?_
          refine go_aload_n dX11_turn_44 rfl ?_
          refine go_aload_n dX11_turn_45 rfl ?_
          refine go_getr fl_X11_40 dX11_turn_46 sh_0 rfl ?_
          refine go_iload_n dX11_turn_49 rfl ?_
          refine go_iaload dX11_turn_50 (by first | assumption | rfl) (by first | assumption | exact Nat.le_of_ble_eq_true rfl) (by omega) (by omega) ?_
          first | (rw [e50]) | (rw [x1]) | skip
          refine go_cvP1 (M2 := mX11_signLength) dX11_turn_51 ml_X11_137 mv_X11_signLength sh_0 rfl rfl (Nat.le_of_ble_eq_true rfl) (by decide) (ev_X11_signLength t1 hrl) ?_
          refine go_icmp_ge (tgt := 93) dX11_turn_54 (by decide) (by unfold inR; omega) (by unfold inR; omega) (fun b54 => ?_) (fun b54 => ?_)
          · skip
            refine go_inc2 dX11_turn_93 (Nat.le_of_ble_eq_true rfl) rfl ?_
            refine go_goto (tgt := 33) dX11_turn_96 (by decide) ?_
            refine ih (k + 1) txt _ _ _ rfl (by omega) (by omega) ?_ x1 x2 ho1
            rw [List.drop_eq_nil_of_le (show ((mt_sg s.2.1 s.2.2.1).getD r []).length ≤ i by omega)] at hF2
            exact hF2
          · skip
            have hcap1 := hcap (by omega)
            refine go_aload_n dX11_turn_57 rfl ?_
            refine go_getr fl_X11_22 dX11_turn_58 sh_0 rfl ?_
            refine go_aload_n dX11_turn_61 rfl ?_
            refine go_geti fl_X11_118 dX11_turn_62 sh_0 rfl ?_
            first | (rw [e50]) | (rw [x1]) | skip
            refine go_aload_n dX11_turn_65 rfl ?_
            refine go_aload_n dX11_turn_66 rfl ?_
            refine go_getr fl_X11_40 dX11_turn_67 sh_0 rfl ?_
            refine go_iload_n dX11_turn_70 rfl ?_
            refine go_iaload dX11_turn_71 (by first | assumption | rfl) (by first | assumption | exact Nat.le_of_ble_eq_true rfl) (by omega) (by omega) ?_
            first | (rw [e50]) | (rw [x1]) | skip
            refine go_iload_n dX11_turn_72 rfl ?_
            refine go_cvP2 (M2 := mX11_signAt) dX11_turn_73 ml_X11_140 mv_X11_signAt sh_0 rfl rfl (Nat.le_of_ble_eq_true rfl) (by decide) (ev_X11_signAt t1 hrl (by omega)) ?_
            refine go_iastore dX11_turn_76 (by first | assumption | rfl) (by first | assumption | exact Nat.le_of_ble_eq_true rfl) (by omega) (by omega) ?_
            refine go_aload_n dX11_turn_77 rfl ?_
            refine go_dup dX11_turn_78 rfl ?_
            refine go_geti fl_X11_118 dX11_turn_79 sh_0 rfl ?_
            first | (rw [e50]) | (rw [x1]) | skip
            rw [show (am_sa σ1 5 (txt.length : Int) (ln_at ((mt_sg s.2.1 s.2.2.1).getD r []) (i : Int))).1 0 7 = (txt.length : Int) from x1]
            refine go_iconst dX11_turn_82 ?_
            refine go_iadd dX11_turn_83 ?_
            refine go_puti fl_X11_118 dX11_turn_84 sh_0 rfl am_fit_int ?_
            refine go_inc3 dX11_turn_87 (Nat.le_of_ble_eq_true rfl) rfl ?_
            refine go_goto (tgt := 43) dX11_turn_90 (by decide) ?_
            refine ih3 (i + 1) (txt ++ [ln_at ((mt_sg s.2.1 s.2.2.1).getD r []) (i : Int)]) _ (by omega) (by omega) ?_ (by simp [am_si]) (arA_snoc x2) ((ho1.tr (fr_sa (by decide))).tr (fr_si (by decide)))
            rw [← hF2, ln_at_drop (xs := (mt_sg s.2.1 s.2.2.1).getD r []) (i := i) (by omega), List.append_assoc]; rfl
      refine go_iload_n dX11_turn_33 rfl ?_
      refine go_aload_n dX11_turn_34 rfl ?_
      refine go_geti fl_X11_124 dX11_turn_35 sh_0 rfl ?_
      first | (rw [r11]) | skip
      refine go_icmp_ge (tgt := 99) dX11_turn_38 (by decide) (by unfold inR; omega) (by unfold inR; omega) (fun b38 => ?_) (fun b38 => ?_)
      · skip
        refine go_aload_n dX11_turn_99 rfl ?_
        refine go_dup dX11_turn_100 rfl ?_
        refine go_geti fl_X11_144 dX11_turn_101 sh_0 rfl ?_
        first | (rw [r11]) | skip
        rw [show σ1.1 0 12 = s.2.2.2.2.2.2.1 by rw [ho1.f 12 (by decide), ho0.f 12 (by decide)]; exact h5.2.1]
        refine go_iconst dX11_turn_104 ?_
        refine go_iadd dX11_turn_105 ?_
        refine go_puti fl_X11_144 dX11_turn_106 sh_0 rfl am_fit_int ?_
        refine go_aload_n dX11_turn_109 rfl ?_
        refine go_iconst dX11_turn_110 ?_
        refine go_puti fl_X11_75 dX11_turn_111 sh_0 rfl am_fit_int ?_
        refine go_aload_n dX11_turn_114 rfl ?_
        refine go_geti fl_X11_124 dX11_turn_115 sh_0 rfl ?_
        first | (rw [r11]) | skip
        rw [show (am_si (am_si σ1 0 12 (s.2.2.2.2.2.2.1 + 1)) 0 9 0).1 0 19 = (T.1.length : Int) from r11]
        refine go_retI dX11_turn_118 rfl ?_
        rw [List.drop_eq_nil_of_le (by omega)] at hF1
        have hF1' : txt = F := by rw [← hF1]; exact (List.append_nil txt).symm
        subst hF1'
        rw [hmt]
        have oo : fr [19, 7, 12, 9] [11, 5] σ (am_si (am_si σ1 0 12 (s.2.2.2.2.2.2.1 + 1)) 0 9 0) := (((ho0.wk (by decide) (by decide)).tr (ho1.wk (by decide) (by decide))).tr (fr_si (by decide))).tr (fr_si (by decide))
        refine ⟨rfl, RepM_swap hrep oo (by decide) (by decide) ⟨x1, x2, hfo, by omega⟩ ⟨by simp [am_si], arA_nil, okl_nil, by simp⟩ ?_ (by simp [am_si]) ?_, oo.off (by decide)⟩
        · rw [oo.f 11 (by decide)]; exact h5.1
        · rw [oo.f 13 (by decide)]; exact h5.2.2.1
      · skip
        refine go_iconst dX11_turn_41 ?_
        refine go_ist3 dX11_turn_42 (Nat.le_of_ble_eq_true rfl) rfl ?_
        refine inner (by omega) (((mt_sg s.2.1 s.2.2.1).getD (ln_at T.1 (k : Int)).toNat []).length + 1) 0 txt _ (by omega) (by omega) ?_ x1 x2 ho1
        rw [← hF1, ln_at_drop (xs := T.1) (i := k) (by omega), mt_spell_cons]; rfl
  refine am_ev (by decide) [some (.ref 0), none, none, none] rfl (Nat.le_of_ble_eq_true rfl) ?_
  refine go_aload_n dX11_turn_0 rfl ?_
  refine go_cvP0 (M2 := mX11_isSmallPage) dX11_turn_1 ml_X11_131 mv_X11_isSmallPage sh_0 rfl rfl (Nat.le_of_ble_eq_true rfl) (by decide) (ev_X11_isSmallPage p1 p2 p3 p4) ?_
  refine go_if_ne (tgt := 10) dX11_turn_4 (by decide) (by unfold inR; split <;> omega) (fun b4 => ?_) (fun b4 => ?_)
  · skip
    have hc : xs.length ≤ 12 ∧ xs.all isSm = true := by by_cases z : xs.length ≤ 12 ∧ xs.all isSm = true; exact z; rw [if_neg z] at b4; exact absurd rfl b4
    rw [if_neg (by rintro (z | z); omega; exact z hc.2)] at mt
    refine go_aload_n dX11_turn_10 rfl ?_
    refine go_cvI0 (M2 := mX11_turnRow) dX11_turn_11 ml_X11_134 mv_X11_turnRow sh_0 rfl rfl (Nat.le_of_ble_eq_true rfl) (by decide) (tr hc.1) (fun x σ1 hq => ?_)
    obtain ⟨rfl, ⟨a1, a2⟩, a3⟩ := hq
    refine go_ist1 dX11_turn_14 (Nat.le_of_ble_eq_true rfl) rfl ?_
    refine go_iload_n dX11_turn_15 rfl ?_
    refine go_iconst dX11_turn_16 ?_
    refine go_icmp_eq (tgt := 26) dX11_turn_17 (by decide) (by unfold inR; split <;> omega) (by unfold inR; omega) (fun b17 => ?_) (fun b17 => ?_)
    · skip
      refine go_aload_n dX11_turn_26 rfl ?_
      refine go_iconst dX11_turn_27 ?_
      refine go_puti fl_X11_118 dX11_turn_28 sh_0 rfl am_fit_int ?_
      refine go_iconst dX11_turn_31 ?_
      refine go_ist2 dX11_turn_32 (Nat.le_of_ble_eq_true rfl) rfl ?_
      have hlt : ¬ T.2 < xs.length := fun z => by rw [if_pos z] at b17; omega
      rw [if_neg hlt] at mt
      refine loop hc.1 mt (am_si σ1 0 7 0) a1 a2 ((a3.wk (by decide) (by decide)).tr (fr_si (by decide))) (T.1.length + 1) 0 [] _ _ _ rfl (by omega) (by omega) ?_ (by simp [am_si]) arA_nil fr.rf
      exact hF
    · skip
      refine go_sipush dX11_turn_20 rfl ?_
      refine go_iload_n dX11_turn_23 rfl ?_
      refine go_isub dX11_turn_24 ?_
      refine go_retI dX11_turn_25 rfl ?_
      have hlt : T.2 < xs.length := by by_cases z : T.2 < (xs.length : Int); exact z; rw [if_neg z] at b17; exact absurd rfl b17
      rw [if_pos hlt] at mt
      rw [mt]
      exact ⟨by rw [if_pos hlt], hrep.fr a3 (by decide) (by decide), a3.off (by decide)⟩
  · skip
    refine go_bipush dX11_turn_7 rfl ?_
    refine go_retI dX11_turn_9 rfl ?_
    have hc : ¬ (xs.length ≤ 12 ∧ xs.all isSm = true) := fun z => by rw [if_pos z] at b4; exact absurd b4 (by decide)
    rw [if_pos (by by_cases q : 12 < xs.length; exact Or.inl q; exact Or.inr (fun z => hc ⟨by omega, z⟩))] at mt
    rw [mt]; exact ⟨rfl, hrep, am_off.rf⟩
theorem ev_X11_text {σ : am_St} {s : mS} (h : RepM σ s) : am_Ev SH mX11_text 2 [.ref 0] σ (am_rI (fun x σ2 => x = (m_text s).1 ∧ RepM σ2 (m_text s).2 ∧ am_off XM σ σ2)) := by
  have hrep := h
  obtain ⟨h1, h2, h3, ⟨p1, p2, p3, p4⟩, h5⟩ := h
  generalize he : s.2.2.2.2.1 = xs at p1 p2 p3 p4
  have mt : m_text s = if ¬ xs.all isInk = true then (-103, s) else ((xs.length : Int), (s.1, s.2.1, s.2.2.1, xs, [], s.2.2.2.2.2.1, s.2.2.2.2.2.2.1, s.2.2.2.2.2.2.2 + 1)) := by unfold m_text; rw [he]
  have loop2 : m_text s = ((xs.length : Int), (s.1, s.2.1, s.2.2.1, xs, [], s.2.2.2.2.2.1, s.2.2.2.2.2.2.1, s.2.2.2.2.2.2.2 + 1)) → ∀ (m2 : Nat) (i : Nat) (σ1 : am_St), xs.length - i < m2 → i ≤ xs.length → fr [] [5] σ σ1 → (∀ j : Nat, j < i → σ1.2.2 5 (j : Int) = ln_at xs (j : Int)) → am_Go SH mX11_text 2 (am_rI (fun x σ2 => x = (m_text s).1 ∧ RepM σ2 (m_text s).2 ∧ am_off XM σ σ2)) 44 [some (.ref 0), some (.int (iZ (i : Int)))] [] σ1 := by
    intro hm m2
    induction m2 with
    | zero => intro i σ1 hm; exact absurd hm (by omega)
    | succ m2 ih =>
      intro i σ1 hm2 hi ho ha
      have q1 : σ1.1 0 9 = (xs.length : Int) := by rw [ho.f 9 (by decide)]; exact p1
      have q2 := p2.fr ho (by decide)
      refine go_iload_n dX11_text_44 rfl ?_
      refine go_aload_n dX11_text_45 rfl ?_
      refine go_geti fl_X11_75 dX11_text_46 sh_0 rfl ?_
      first | (rw [q1]) | (rw [q2 i (by omega)]) | skip
      refine go_icmp_ge (tgt := 70) dX11_text_49 (by decide) (by unfold inR; omega) (by unfold inR; omega) (fun b49 => ?_) (fun b49 => ?_)
      · skip
        refine go_aload_n dX11_text_70 rfl ?_
        refine go_aload_n dX11_text_71 rfl ?_
        refine go_geti fl_X11_75 dX11_text_72 sh_0 rfl ?_
        first | (rw [q1]) | (rw [q2 i (by omega)]) | skip
        refine go_puti fl_X11_118 dX11_text_75 sh_0 rfl am_fit_int ?_
        refine go_aload_n dX11_text_78 rfl ?_
        refine go_iconst dX11_text_79 ?_
        refine go_puti fl_X11_75 dX11_text_80 sh_0 rfl am_fit_int ?_
        refine go_aload_n dX11_text_83 rfl ?_
        refine go_dup dX11_text_84 rfl ?_
        refine go_geti fl_X11_147 dX11_text_85 sh_0 rfl ?_
        first | (rw [q1]) | (rw [q2 i (by omega)]) | skip
        rw [show (am_si (am_si σ1 0 7 (xs.length : Int)) 0 9 0).1 0 13 = s.2.2.2.2.2.2.2 by show σ1.1 0 13 = _; rw [ho.f 13 (by decide)]; exact h5.2.2.1]
        refine go_iconst dX11_text_88 ?_
        refine go_iadd dX11_text_89 ?_
        refine go_puti fl_X11_147 dX11_text_90 sh_0 rfl am_fit_int ?_
        refine go_aload_n dX11_text_93 rfl ?_
        refine go_geti fl_X11_118 dX11_text_94 sh_0 rfl ?_
        first | (rw [q1]) | (rw [q2 i (by omega)]) | skip
        rw [show (am_si (am_si (am_si σ1 0 7 (xs.length : Int)) 0 9 0) 0 13 (s.2.2.2.2.2.2.2 + 1)).1 0 7 = (xs.length : Int) by simp [am_si]]
        refine go_retI dX11_text_97 rfl ?_
        have oo : fr [7, 9, 13] [5] σ (am_si (am_si (am_si σ1 0 7 (xs.length : Int)) 0 9 0) 0 13 (s.2.2.2.2.2.2.2 + 1)) := (((ho.wk (by decide) (by decide)).tr (fr_si (by decide))).tr (fr_si (by decide))).tr (fr_si (by decide))
        rw [hm]
        refine ⟨rfl, RepM_swap hrep oo (by decide) (by decide) ⟨by simp [am_si], fun j hj => ha j (by omega), p3, p4⟩ ⟨by simp [am_si], arA_nil, okl_nil, by simp⟩ ?_ ?_ (by simp [am_si]), oo.off (by decide)⟩
        · rw [oo.f 11 (by decide)]; exact h5.1
        · rw [oo.f 12 (by decide)]; exact h5.2.1
      · skip
        refine go_aload_n dX11_text_52 rfl ?_
        refine go_getr fl_X11_22 dX11_text_53 sh_0 rfl ?_
        refine go_iload_n dX11_text_56 rfl ?_
        refine go_aload_n dX11_text_57 rfl ?_
        refine go_getr fl_X11_25 dX11_text_58 sh_0 rfl ?_
        refine go_iload_n dX11_text_61 rfl ?_
        refine go_iaload dX11_text_62 (by first | assumption | rfl) (by first | assumption | exact Nat.le_of_ble_eq_true rfl) (by omega) (by omega) ?_
        first | (rw [q1]) | (rw [q2 i (by omega)]) | skip
        refine go_iastore dX11_text_63 (by first | assumption | rfl) (by first | assumption | exact Nat.le_of_ble_eq_true rfl) (by omega) (by omega) ?_
        refine go_inc1 dX11_text_64 (Nat.le_of_ble_eq_true rfl) rfl ?_
        refine go_goto (tgt := 44) dX11_text_67 (by decide) ?_
        refine ih (i + 1) _ (by omega) (by omega) (ho.tr (fr_sa (by decide))) (fun j hj => ?_)
        show (if 5 = 5 ∧ (j : Int) = (i : Int) then _ else σ1.2.2 5 (j : Int)) = _
        by_cases e : j = i
        · rw [if_pos ⟨rfl, by omega⟩, e]
        · rw [if_neg (by omega)]; exact ha j (by omega)
  have loop : ∀ (m2 : Nat) (i : Nat), (xs.take i).all isInk = true → xs.length - i < m2 → i ≤ xs.length → am_Go SH mX11_text 2 (am_rI (fun x σ2 => x = (m_text s).1 ∧ RepM σ2 (m_text s).2 ∧ am_off XM σ σ2)) 2 [some (.ref 0), some (.int (iZ (i : Int)))] [] σ := by
    intro m2
    induction m2 with
    | zero => intro i _ hm; exact absurd hm (by omega)
    | succ m2 ih =>
      intro i hy hm hi
      have hcR : inR (ln_at xs (i : Int)) := ln_at_R (okl_R p3)
      refine go_iload_n dX11_text_2 rfl ?_
      refine go_aload_n dX11_text_3 rfl ?_
      refine go_geti fl_X11_75 dX11_text_4 sh_0 rfl ?_
      first | (rw [p1]) | (rw [p2 i (by omega)]) | skip
      refine go_icmp_ge (tgt := 42) dX11_text_7 (by decide) (by unfold inR; omega) (by unfold inR; omega) (fun b7 => ?_) (fun b7 => ?_)
      · skip
        refine go_iconst dX11_text_42 ?_
        refine go_ist1 dX11_text_43 (Nat.le_of_ble_eq_true rfl) rfl ?_
        rw [show i = xs.length by omega, List.take_length] at hy
        rw [if_neg (by rw [hy]; simp)] at mt
        exact loop2 mt (xs.length + 1) 0 _ (by omega) (by omega) fr.rf (fun j hj => absurd hj (by omega))
      · skip
        refine go_aload_n dX11_text_10 rfl ?_
        refine go_getr fl_X11_25 dX11_text_11 sh_0 rfl ?_
        refine go_iload_n dX11_text_14 rfl ?_
        refine go_iaload dX11_text_15 (by first | assumption | rfl) (by first | assumption | exact Nat.le_of_ble_eq_true rfl) (by omega) (by omega) ?_
        first | (rw [p1]) | (rw [p2 i (by omega)]) | skip
        refine go_csP1 (M2 := mX11_isGreat) dX11_text_16 ml_X11_96 ms_X11_isGreat (Nat.le_of_ble_eq_true rfl) (by decide) (ev_X11_isGreat hcR) ?_
        refine go_if_ne (tgt := 36) dX11_text_19 (by decide) (by unfold inR; split <;> omega) (fun b19 => ?_) (fun b19 => ?_)
        · skip
          have hg : 65 ≤ ln_at xs (i : Int) ∧ ln_at xs (i : Int) ≤ 90 := by by_cases z : 65 ≤ ln_at xs (i : Int) ∧ ln_at xs (i : Int) ≤ 90; exact z; rw [if_neg z] at b19; exact absurd rfl b19
          refine go_inc1 dX11_text_36 (Nat.le_of_ble_eq_true rfl) rfl ?_
          refine go_goto (tgt := 2) dX11_text_39 (by decide) ?_
          refine ih (i + 1) ?_ (by omega) (by omega)
          rw [take_snoc (by omega), List.all_append, hy]
          simp only [List.all_cons, List.all_nil, isInk, Bool.true_and, Bool.and_true, decide_eq_true_eq]
          first | exact Or.inl hg | exact Or.inr b30
        · skip
          have hg : ¬ (65 ≤ ln_at xs (i : Int) ∧ ln_at xs (i : Int) ≤ 90) := fun z => by rw [if_pos z] at b19; exact absurd b19 (by decide)
          refine go_aload_n dX11_text_22 rfl ?_
          refine go_getr fl_X11_25 dX11_text_23 sh_0 rfl ?_
          refine go_iload_n dX11_text_26 rfl ?_
          refine go_iaload dX11_text_27 (by first | assumption | rfl) (by first | assumption | exact Nat.le_of_ble_eq_true rfl) (by omega) (by omega) ?_
          first | (rw [p1]) | (rw [p2 i (by omega)]) | skip
          refine go_bipush dX11_text_28 rfl ?_
          refine go_icmp_eq (tgt := 36) dX11_text_30 (by decide) hcR (by unfold inR; omega) (fun b30 => ?_) (fun b30 => ?_)
          · skip
            refine go_inc1 dX11_text_36 (Nat.le_of_ble_eq_true rfl) rfl ?_
            refine go_goto (tgt := 2) dX11_text_39 (by decide) ?_
            refine ih (i + 1) ?_ (by omega) (by omega)
            rw [take_snoc (by omega), List.all_append, hy]
            simp only [List.all_cons, List.all_nil, isInk, Bool.true_and, Bool.and_true, decide_eq_true_eq]
            first | exact Or.inl hg | exact Or.inr b30
          · skip
            refine go_bipush dX11_text_33 rfl ?_
            refine go_retI dX11_text_35 rfl ?_
            have hn : ¬ xs.all isInk = true := fun z => by
              rw [List.all_eq_true] at z
              have := z (ln_at xs (i : Int)) (by rw [ln_at_get (List.getElem?_eq_getElem (by omega : i < xs.length))]; exact List.getElem_mem _)
              simp only [isInk, decide_eq_true_eq] at this
              rcases this with q | q
              · exact hg q
              · exact b30 q
            rw [if_pos hn] at mt
            rw [mt]; exact ⟨rfl, hrep, am_off.rf⟩
  refine am_ev (by decide) [some (.ref 0), none] rfl (Nat.le_of_ble_eq_true rfl) ?_
  refine go_iconst dX11_text_0 ?_
  refine go_ist1 dX11_text_1 (Nat.le_of_ble_eq_true rfl) rfl ?_
  exact loop (xs.length + 1) 0 rfl (by omega) (by omega)
