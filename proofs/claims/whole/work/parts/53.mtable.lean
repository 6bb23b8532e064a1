/-! ===== the reference: table ===== -/
def cpM (σ : am_St) (k q : Int) : Prop := (∀ i : Int, 0 ≤ i → i < k → σ.2.2 1 i = σ.2.2 7 i ∧ σ.2.2 2 i = σ.2.2 8 i) ∧ ∀ i : Int, 0 ≤ i → i < q → σ.2.2 3 i = σ.2.2 9 i ∧ σ.2.2 4 i = σ.2.2 10 i
theorem wdA_cp {σ σ1 : am_St} {W : List (List Int)} {kl ka kl2 ka2 : Nat} (h : wdA σ kl2 ka2 W) (h3 : ∀ x ∈ W, x.length ≤ 3) (e1 : ∀ i : Int, 0 ≤ i → i < W.length → σ1.2.2 kl i = σ.2.2 kl2 i) (e2 : ∀ i : Int, 0 ≤ i → i < 3 * W.length → σ1.2.2 ka i = σ.2.2 ka2 i) : wdA σ1 kl ka W := by
  intro i hi
  have key := h i hi
  have e3 : W.getD i [] = W[i] := by simp [List.getD, hi]
  have l3 : (W.getD i []).length ≤ 3 := by rw [e3]; exact h3 _ (List.getElem_mem hi)
  exact ⟨by rw [e1 _ (by omega) (by omega)]; exact key.1, fun j hj => by rw [e2 _ (by omega) (by omega)]; exact key.2 j hj⟩
theorem rd_run_ok : ∀ (xs : List Int) (s : rd_S), rd_ok s → rd_ok (rd_run xs s).2
  | [], _, h => h
  | c :: xs, s, h => by
    rw [rd_run_st]
    cases hc : rd_take s c with
    | none => exact h
    | some s' => exact rd_run_ok xs s' (rd_take_ok h hc)
theorem ev_X11_table {σ : am_St} {s : mS} (h : RepM σ s) : am_Ev SH mX11_table 4 [.ref 0] σ (am_rI (fun x σ2 => x = (m_table s).1 ∧ RepM σ2 (m_table s).2 ∧ am_off XM σ σ2)) := by
  have hrep := h
  obtain ⟨h1, h2, h3, ⟨p1, p2, p3, p4⟩, h5⟩ := h
  generalize hxs : s.2.2.2.2.1 = xs at p1 p2 p3 p4
  have hok := rd_run_ok xs rd_0 rd_0_ok
  have hle := rd_run_le xs rd_0
  generalize hT : rd_run xs rd_0 = T at hok hle
  have htab : rd_tab xs = if T.1 < xs.length ∨ T.2.2.2.2 = [] then none else some (T.2.1 ++ [T.2.2.2.1], T.2.2.1 ++ [T.2.2.2.2]) := by unfold rd_tab; rw [hT]
  have loop : ∀ (σ0 : am_St), rdM σ0 T.2 → fr (0 :: RDF) RDA σ σ0 → σ0.1 0 0 = (T.2.1.length : Int) + 1 → T.1 = xs.length → T.2.2.2.2 ≠ [] → ∀ (m : Nat) (k : Nat) (o : Option Value) (σ1 : am_St), am_nl o = true → T.2.1.length + 1 - k < m → k ≤ T.2.1.length + 1 → fr [] [1, 2, 3, 4] σ0 σ1 → cpM σ1 k (3 * k) → am_Go SH mX11_table 4 (am_rI (fun x σ2 => x = (m_table s).1 ∧ RepM σ2 (m_table s).2 ∧ am_off XM σ σ2)) 38 [some (.ref 0), some (.int (iZ (k : Int))), o] [] σ1 := by
    intro σ0 hr ho hrules hT1 hT2 m
    have hn := hok.2.1
    induction m with
    | zero => intro k o σ1 _ hm; exact absurd hm (by omega)
    | succ m ih =>
      intro k o σ1 hno hm hk ho1 hcp
      have r1 : σ1.1 0 0 = (T.2.1.length : Int) + 1 := by rw [ho1.f 0 (by decide)]; exact hrules
      have inner : k ≤ T.2.1.length → ∀ (m2 : Nat) (i : Nat) (σ2 : am_St), 3 - i < m2 → i ≤ 3 → fr [] [1, 2, 3, 4] σ0 σ2 → cpM σ2 (k + 1) (3 * k + i) → am_Go SH mX11_table 4 (am_rI (fun x σ2 => x = (m_table s).1 ∧ RepM σ2 (m_table s).2 ∧ am_off XM σ σ2)) 72 [some (.ref 0), some (.int (iZ (k : Int))), some (.int (iZ (i : Int)))] [] σ2 := by
        intro hkl m2
        induction m2 with
        | zero => intro i σ2 hm2; exact absurd hm2 (by omega)
        | succ m2 ih2 =>
          intro i σ2 hm2 hi ho2 hcp2
          refine go_iload_n dX11_table_72 rfl ?_
          refine go_iconst dX11_table_73 ?_
          refine go_icmp_ge (tgt := 123) dX11_table_74 (by decide) (by unfold inR; omega) (by unfold inR; omega) (fun b74 => ?_) (fun b74 => ?_)
          · skip
            refine go_inc1 dX11_table_123 (Nat.le_of_ble_eq_true rfl) rfl ?_
            refine go_goto (tgt := 38) dX11_table_126 (by decide) ?_
            exact ih (k + 1) _ _ rfl (by omega) (by omega) ho2 ⟨fun a a0 a1 => hcp2.1 a a0 (by omega), fun a a0 a1 => hcp2.2 a a0 (by omega)⟩
          · skip
            refine go_aload_n dX11_table_77 rfl ?_
            refine go_getr fl_X11_16 dX11_table_78 sh_0 rfl ?_
            refine go_iconst dX11_table_81 ?_
            refine go_iload_n dX11_table_82 rfl ?_
            refine go_imul dX11_table_83 ?_
            refine go_iload_n dX11_table_84 rfl ?_
            refine go_iadd dX11_table_85 ?_
            refine go_aload_n dX11_table_86 rfl ?_
            refine go_getr fl_X11_34 dX11_table_87 sh_0 rfl ?_
            refine go_iconst dX11_table_90 ?_
            refine go_iload_n dX11_table_91 rfl ?_
            refine go_imul dX11_table_92 ?_
            refine go_iload_n dX11_table_93 rfl ?_
            refine go_iadd dX11_table_94 ?_
            refine go_iaload dX11_table_95 (by first | assumption | rfl) (by first | assumption | exact Nat.le_of_ble_eq_true rfl) (by omega) (by omega) ?_
            refine go_iastore dX11_table_96 (by first | assumption | rfl) (by first | assumption | exact Nat.le_of_ble_eq_true rfl) (by omega) (by omega) ?_
            refine go_aload_n dX11_table_97 rfl ?_
            refine go_getr fl_X11_19 dX11_table_98 sh_0 rfl ?_
            refine go_iconst dX11_table_101 ?_
            refine go_iload_n dX11_table_102 rfl ?_
            refine go_imul dX11_table_103 ?_
            refine go_iload_n dX11_table_104 rfl ?_
            refine go_iadd dX11_table_105 ?_
            refine go_aload_n dX11_table_106 rfl ?_
            refine go_getr fl_X11_37 dX11_table_107 sh_0 rfl ?_
            refine go_iconst dX11_table_110 ?_
            refine go_iload_n dX11_table_111 rfl ?_
            refine go_imul dX11_table_112 ?_
            refine go_iload_n dX11_table_113 rfl ?_
            refine go_iadd dX11_table_114 ?_
            refine go_iaload dX11_table_115 (by first | assumption | rfl) (by first | assumption | exact Nat.le_of_ble_eq_true rfl) (by omega) (by omega) ?_
            refine go_iastore dX11_table_116 (by first | assumption | rfl) (by first | assumption | exact Nat.le_of_ble_eq_true rfl) (by omega) (by omega) ?_
            refine go_inc2 dX11_table_117 (Nat.le_of_ble_eq_true rfl) rfl ?_
            refine go_goto (tgt := 72) dX11_table_120 (by decide) ?_
            refine ih2 (i + 1) _ (by omega) (by omega) ((ho2.tr (fr_sa (by decide))).tr (fr_sa (by decide))) ⟨fun a a0 a1 => hcp2.1 a a0 a1, fun a a0 a1 => ?_⟩
            have hq := hcp2.2 a a0
            by_cases e : a = 3 * (k : Int) + (i : Int)
            · simp [am_sa, e]
            · have := hq (by omega); simpa [am_sa, e] using this
      have e5 : (am_si (am_si (am_si (am_si σ1 0 5 0) 0 6 0) 0 7 0) 0 9 0).1 0 11 = s.2.2.2.2.2.1 := by
        show σ1.1 0 11 = _
        rw [ho1.f 11 (by decide), ho.f 11 (by decide)]; exact h5.1
      have e6 : (am_si (am_si (am_si (am_si (am_si σ1 0 5 0) 0 6 0) 0 7 0) 0 9 0) 0 11 (s.2.2.2.2.2.1 + 1)).1 0 0 = (T.2.1.length : Int) + 1 := r1
      refine go_iload_n dX11_table_38 rfl ?_
      refine go_aload_n dX11_table_39 rfl ?_
      refine go_geti fl_X11_109 dX11_table_40 sh_0 rfl ?_
      first | (rw [r1]) | (rw [e5]) | (rw [e6]) | skip
      refine go_icmp_ge (tgt := 129) dX11_table_43 (by decide) (by unfold inR; omega) (by unfold inR; omega) (fun b43 => ?_) (fun b43 => ?_)
      · skip
        refine go_aload_n dX11_table_129 rfl ?_
        refine go_iconst dX11_table_130 ?_
        refine go_puti fl_X11_112 dX11_table_131 sh_0 rfl am_fit_int ?_
        refine go_aload_n dX11_table_134 rfl ?_
        refine go_iconst dX11_table_135 ?_
        refine go_puti fl_X11_115 dX11_table_136 sh_0 rfl am_fit_int ?_
        refine go_aload_n dX11_table_139 rfl ?_
        refine go_iconst dX11_table_140 ?_
        refine go_puti fl_X11_118 dX11_table_141 sh_0 rfl am_fit_int ?_
        refine go_aload_n dX11_table_144 rfl ?_
        refine go_iconst dX11_table_145 ?_
        refine go_puti fl_X11_75 dX11_table_146 sh_0 rfl am_fit_int ?_
        refine go_aload_n dX11_table_149 rfl ?_
        refine go_dup dX11_table_150 rfl ?_
        refine go_geti fl_X11_121 dX11_table_151 sh_0 rfl ?_
        first | (rw [r1]) | (rw [e5]) | (rw [e6]) | skip
        refine go_iconst dX11_table_154 ?_
        refine go_iadd dX11_table_155 ?_
        refine go_puti fl_X11_121 dX11_table_156 sh_0 rfl am_fit_int ?_
        refine go_aload_n dX11_table_159 rfl ?_
        refine go_geti fl_X11_109 dX11_table_160 sh_0 rfl ?_
        first | (rw [r1]) | (rw [e5]) | (rw [e6]) | skip
        refine go_retI dX11_table_163 rfl ?_
        have hke : k = T.2.1.length + 1 := by omega
        subst hke
        have hs : rd_tab xs = some (T.2.1 ++ [T.2.2.2.1], T.2.2.1 ++ [T.2.2.2.2]) := by rw [htab, if_neg (by rintro (z | z); omega; exact hT2 z)]
        have hm : m_table s = (((T.2.2.1 ++ [T.2.2.2.2]).length : Int), (T.2.1 ++ [T.2.2.2.1], T.2.2.1 ++ [T.2.2.2.2], 0, [], [], s.2.2.2.2.2.1 + 1, s.2.2.2.2.2.2)) := by unfold m_table; rw [hxs, hs]
        have htk : tabOK (T.2.1 ++ [T.2.2.2.1]) (T.2.2.1 ++ [T.2.2.2.2]) 0 := rd_tab_ok (by rw [hT]; exact hok) hs
        rw [hm]
        have l1 : (T.2.1 ++ [T.2.2.2.1]).length = T.2.1.length + 1 := by simp
        have l2 : (T.2.2.1 ++ [T.2.2.2.2]).length = T.2.1.length + 1 := by rw [← htk.1]; exact l1
        have fo := ho1.2
        refine ⟨by simp only []; rw [l2]; omega, ⟨⟨by simp only []; rw [l2]; exact r1, by simp [am_si], ?_, ?_, htk⟩, by simp [am_si], ⟨by simp [am_si], (fun j hj => absurd hj (by simp)), (fun c hc => nomatch hc), by simp⟩, ⟨by simp [am_si], (fun j hj => absurd hj (by simp)), (fun c hc => nomatch hc), by simp⟩, by simp [am_si], by simp [am_si]; rw [ho1.f 12 (by decide), ho.f 12 (by decide)]; exact h5.2.1, by simp [am_si]; rw [ho1.f 13 (by decide), ho.f 13 (by decide)]; exact h5.2.2.1, (show σ1.1 0 29 = 0 ∨ σ1.1 0 29 = 1 by rw [ho1.f 29 (by decide), ho.f 29 (by decide)]; exact h5.2.2.2)⟩, ?_⟩
        · exact wdA_cp (σ := σ1) (hr.2.1.fr ho1 (by decide) (by decide)) (fun x hx => (htk.2.2.2.1 x hx).2.2) (fun a a0 a1 => (hcp.1 a a0 (by rw [l1] at a1; omega)).1) (fun a a0 a1 => (hcp.2 a a0 (by rw [l1] at a1; omega)).1)
        · exact wdA_cp (σ := σ1) (hr.2.2.1.fr ho1 (by decide) (by decide)) (fun x hx => (htk.2.2.2.2 x hx).2.2) (fun a a0 a1 => (hcp.1 a a0 (by rw [l2] at a1; omega)).2) (fun a a0 a1 => (hcp.2 a a0 (by rw [l2] at a1; omega)).2)
        · exact (((((((ho.wk (fs' := [0, 5, 6, 7, 9, 11, 14]) (as' := [1, 2, 3, 4, 7, 8, 9, 10]) (by decide) (by decide)).tr (ho1.wk (by decide) (by decide))).tr (fr_si (by decide))).tr (fr_si (by decide))).tr (fr_si (by decide))).tr (fr_si (by decide))).tr (fr_si (by decide))).off (by decide)
      · skip
        refine go_aload_n dX11_table_46 rfl ?_
        refine go_getr fl_X11_7 dX11_table_47 sh_0 rfl ?_
        refine go_iload_n dX11_table_50 rfl ?_
        refine go_aload_n dX11_table_51 rfl ?_
        refine go_getr fl_X11_28 dX11_table_52 sh_0 rfl ?_
        refine go_iload_n dX11_table_55 rfl ?_
        refine go_iaload dX11_table_56 (by first | assumption | rfl) (by first | assumption | exact Nat.le_of_ble_eq_true rfl) (by omega) (by omega) ?_
        first | (rw [r1]) | (rw [e5]) | (rw [e6]) | skip
        refine go_iastore dX11_table_57 (by first | assumption | rfl) (by first | assumption | exact Nat.le_of_ble_eq_true rfl) (by omega) (by omega) ?_
        refine go_aload_n dX11_table_58 rfl ?_
        refine go_getr fl_X11_13 dX11_table_59 sh_0 rfl ?_
        refine go_iload_n dX11_table_62 rfl ?_
        refine go_aload_n dX11_table_63 rfl ?_
        refine go_getr fl_X11_31 dX11_table_64 sh_0 rfl ?_
        refine go_iload_n dX11_table_67 rfl ?_
        refine go_iaload dX11_table_68 (by first | assumption | rfl) (by first | assumption | exact Nat.le_of_ble_eq_true rfl) (by omega) (by omega) ?_
        first | (rw [r1]) | (rw [e5]) | (rw [e6]) | skip
        refine go_iastore dX11_table_69 (by first | assumption | rfl) (by first | assumption | exact Nat.le_of_ble_eq_true rfl) (by omega) (by omega) ?_
        refine go_iconst dX11_table_70 ?_
        refine go_ist2 dX11_table_71 (Nat.le_of_ble_eq_true rfl) rfl ?_
        refine inner (by omega) 4 0 _ (by omega) (by omega) ((ho1.tr (fr_sa (by decide))).tr (fr_sa (by decide))) ⟨fun a a0 a1 => ?_, fun a a0 a1 => hcp.2 a a0 (by omega)⟩
        have hq := hcp.1 a a0
        by_cases e : a = (k : Int)
        · simp [am_sa, e]
        · have := hq (by omega); simpa [am_sa, e] using this
  refine am_ev (by decide) [some (.ref 0), none, none] rfl (Nat.le_of_ble_eq_true rfl) ?_
  refine go_aload_n dX11_table_0 rfl ?_
  refine go_cvI0 (M2 := mX11_read) dX11_table_1 ml_X11_105 mv_X11_read sh_0 rfl rfl (Nat.le_of_ble_eq_true rfl) (by decide) (ev_X11_read p1 p2 p3 p4) (fun x σ1 hq => ?_)
  obtain ⟨rfl, q2, q3⟩ := hq
  rw [hT] at q2 ⊢
  have hcu := q2.cur
  have e9 : σ1.1 0 9 = (xs.length : Int) := by rw [q3.f 9 (by decide)]; exact p1
  have hn := hok.2.1
  have hl3 := hok.2.2.2.2.2.2.2.1
  refine go_aload_n dX11_table_4 rfl ?_
  refine go_geti fl_X11_75 dX11_table_5 sh_0 rfl ?_
  first | (rw [e9]) | (rw [q2.1]) | (rw [hcu.2]) | skip
  refine go_icmp_lt (tgt := 23) dX11_table_8 (by decide) (by unfold inR; omega) (by unfold inR; omega) (fun b8 => ?_) (fun b8 => ?_)
  · skip
    refine go_bipush dX11_table_23 rfl ?_
    refine go_retI dX11_table_25 rfl ?_
    have hm : m_table s = (-103, s) := by
      have : rd_tab xs = none := by rw [htab, if_pos]; first | exact Or.inl (by omega) | exact Or.inr (len0.mp b20)
      unfold m_table; rw [hxs, this]
    rw [hm]
    exact ⟨rfl, hrep.fr q3 (by decide) (by decide), q3.off (by decide)⟩
  · skip
    refine go_aload_n dX11_table_11 rfl ?_
    refine go_getr fl_X11_31 dX11_table_12 sh_0 rfl ?_
    refine go_aload_n dX11_table_15 rfl ?_
    refine go_geti fl_X11_79 dX11_table_16 sh_0 rfl ?_
    first | (rw [e9]) | (rw [q2.1]) | (rw [hcu.2]) | skip
    refine go_iaload dX11_table_19 (by first | assumption | rfl) (by first | assumption | exact Nat.le_of_ble_eq_true rfl) (by omega) (by omega) ?_
    first | (rw [e9]) | (rw [q2.1]) | (rw [hcu.2]) | skip
    refine go_if_ne (tgt := 26) dX11_table_20 (by decide) (by unfold inR; omega) (fun b20 => ?_) (fun b20 => ?_)
    · skip
      refine go_aload_n dX11_table_26 rfl ?_
      refine go_aload_n dX11_table_27 rfl ?_
      refine go_geti fl_X11_79 dX11_table_28 sh_0 rfl ?_
      first | (rw [e9]) | (rw [q2.1]) | (rw [hcu.2]) | skip
      refine go_iconst dX11_table_31 ?_
      refine go_iadd dX11_table_32 ?_
      refine go_puti fl_X11_109 dX11_table_33 sh_0 rfl am_fit_int ?_
      refine go_iconst dX11_table_36 ?_
      refine go_ist1 dX11_table_37 (Nat.le_of_ble_eq_true rfl) rfl ?_
      refine loop (am_si σ1 0 0 ((T.2.1.length : Int) + 1)) (q2.fr (fs := [0]) (as := []) (fr_si (by decide)) (by decide) (by decide)) ((q3.wk (by decide) (by decide)).tr (fr_si (by decide))) (by simp [am_si]) (by omega) (fun z => b20 (len0.mpr z)) (T.2.1.length + 2) 0 _ _ rfl (by omega) (by omega) fr.rf ⟨fun a a0 a1 => absurd a1 (by omega), fun a a0 a1 => absurd a1 (by omega)⟩
    · skip
      refine go_bipush dX11_table_23 rfl ?_
      refine go_retI dX11_table_25 rfl ?_
      have hm : m_table s = (-103, s) := by
        have : rd_tab xs = none := by rw [htab, if_pos]; first | exact Or.inl (by omega) | exact Or.inr (len0.mp b20)
        unfold m_table; rw [hxs, this]
      rw [hm]
      exact ⟨rfl, hrep.fr q3 (by decide) (by decide), q3.off (by decide)⟩
