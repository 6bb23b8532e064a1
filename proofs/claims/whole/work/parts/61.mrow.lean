/-! ===== the reference: ruleIn, first ===== -/
def rowAt (l : List Int) (p : Int) : Int := if 0 ≤ p ∧ p < l.length then ln_at l p else -1
theorem rowAt_0 (a : Int) (l : List Int) : rowAt (a :: l) 0 = a := by
  unfold rowAt
  rw [if_pos (by simp only [List.length_cons]; omega)]
  exact ln_at_get (i := 0) rfl
theorem rowAt_s (a : Int) (l : List Int) {q : Int} (h : 0 < q) : rowAt (a :: l) q = rowAt l (q - 1) := by
  unfold rowAt
  by_cases c : q < l.length + 1
  · rw [if_pos (by simp only [List.length_cons]; omega), if_pos (by omega)]
    obtain ⟨n, rfl⟩ : ∃ n : Nat, q = (n : Int) + 1 := ⟨(q - 1).toNat, by omega⟩
    have hn : n < l.length := by omega
    rw [show ((n : Int) + 1) = ((n + 1 : Nat) : Int) by omega, ln_at_get (i := n + 1) (x := l[n]) (by simp [hn]), show (((n + 1 : Nat) : Int) - 1) = (n : Int) by omega, ln_at_get (List.getElem?_eq_getElem hn)]
  · rw [if_neg (by simp only [List.length_cons]; omega), if_neg (by omega)]
theorem rowAt_nil (q : Int) : rowAt [] q = -1 := by unfold rowAt; rw [if_neg (by simp only [List.length_nil]; omega)]
theorem mt_row_st {S : List (List Int)} {f : Nat} {t : List Int} {sk : Int} (h : t ≠ []) {a : Int} {b : Nat} {c : Int} (hp : mt_pk t (fun L => (mt_us S t).getD L 0) S 0 sk = some (a, b, c)) : mt_row S (f + 1) t sk = a :: mt_row S f (t.drop b) c := by
  show (if t = [] then [] else _) = _
  rw [if_neg h, hp]
theorem mt_row_nil {S : List (List Int)} {f : Nat} {sk : Int} : mt_row S f [] sk = [] := by cases f <;> rfl
theorem ev_X11_ruleIn {σ : am_St} {L R : List (List Int)} {m : Nat} {xs : List Int} {which p : Int} (h : tbM σ L R m) (hw : wkM σ xs) (hsp : spM σ (mt_sg R m) xs 0) (h0 : 0 ≤ which) (h1 : which ≤ 1) (hp : inR p) : am_Ev SH mX11_ruleIn 2 [.ref 0, .int (iZ which), .int (iZ p)] σ (am_rI (fun x σ2 => x = rowAt (mt_pick (mt_sg R m) xs which) p ∧ σ2 = σ)) := by
  have h8 := h.2.2.2.2.2.1
  have hSl := mt_sg_len R m
  have w4 := hw.2.2.2
  have hne := (okw_sg h.2.2.2.2.2.2.2.2 m).2
  have l4 := fun i => (h.sg i).2
  have lies := fun r f (hr : r < R.length) (hf : f ≤ xs.length) => ev_X11_lies (f := f) h hr hw hf
  have sl := fun r (hr : r < R.length) => ev_X11_signLength h hr
  generalize hS : mt_sg R m = S at *
  generalize hT : rowAt (mt_pick S xs which) p = T
  have u0 := (hsp 0 (by omega) (by omega)).2
  rw [show ((0 : Nat) : Int) = 0 from rfl] at u0
  have b0 := mt_us_bd S xs 0
  have outer : ∀ (m2 : Nat) (f fu : Nat) (sk rl k : Int) (o7 o8 : Option Value), am_nl o7 = true → am_nl o8 = true → xs.length - f < m2 → f ≤ xs.length → xs.length - f ≤ fu → 0 ≤ sk → sk < (mt_us S (xs.drop f)).getD 0 0 → inR rl → 0 ≤ k → 0 ≤ p → ((k ≤ p ∧ rowAt (mt_row S fu (xs.drop f) sk) (p - k) = T) ∨ (k = p + 1 ∧ rl = T)) → k ≤ f → am_Go SH mX11_ruleIn 2 (am_rI (fun x σ2 => x = T ∧ σ2 = σ)) 27 [some (.ref 0), some (.int (iZ which)), some (.int (iZ p)), some (.int (iZ (f : Int))), some (.int (iZ sk)), some (.int (iZ rl)), some (.int (iZ k)), o7, o8] [] σ := by
    intro m2
    induction m2 with
    | zero => intro f fu sk rl k o7 o8 _ _ hm; exact absurd hm (by omega)
    | succ m2 ih =>
      intro f fu sk rl k o7 o8 n7 n8 hm hf hfu s0 s1 hrl k0 p0 hinv hkf
      have hkR : inR k := by unfold inR; omega
      by_cases hend : f = xs.length
      · have hd : xs.drop f = [] := List.drop_eq_nil_of_le (by omega)
        refine go_iload dX11_ruleIn_27 rfl ?_
        refine go_iload_n dX11_ruleIn_29 rfl ?_
        refine go_icmp_gt (tgt := 146) dX11_ruleIn_30 (by decide) hkR hp (fun b30 => ?_) (fun b30 => ?_)
        · skip
          refine go_iload dX11_ruleIn_146 rfl ?_
          refine go_retI dX11_ruleIn_148 rfl ?_
          refine ⟨?_, rfl⟩
          rcases hinv with z | z
          · exact absurd z.1 (by omega)
          · exact z.2
        · skip
          refine go_iload_n dX11_ruleIn_33 rfl ?_
          refine go_aload_n dX11_ruleIn_34 rfl ?_
          refine go_geti fl_X11_167 dX11_ruleIn_35 sh_0 rfl ?_
          first | (rw [hw.1]) | skip
          refine go_icmp_ne (tgt := 43) dX11_ruleIn_38 (by decide) (by unfold inR; omega) (by unfold inR; omega) (fun b38 => ?_) (fun b38 => ?_)
          · skip
            exact absurd (by omega) b38
          · skip
            refine go_iconst dX11_ruleIn_41 ?_
            refine go_retI dX11_ruleIn_42 rfl ?_
            refine ⟨?_, rfl⟩
            rcases hinv with z | z
            · rw [← z.2, hd, mt_row_nil, rowAt_nil]
            · exact absurd z.1 (by omega)
      · have hlt : f < xs.length := by omega
        obtain ⟨f2, rfl⟩ : ∃ f2, fu = f2 + 1 := ⟨fu - 1, by omega⟩
        have hnn : xs.drop f ≠ [] := fun z => by have := congrArg List.length z; rw [List.length_drop] at this; simp at this; omega
        obtain ⟨j, s, hj, hpre, hs0, sk2, hpk, hsk0, hsk1⟩ := mt_pk_full hnn s0 s1
        rw [mt_row_st hnn hpk] at hinv
        have hjl : j < S.length := by rcases Nat.lt_or_ge j S.length with z | z; exact z; rw [List.getElem?_eq_none z] at hj; cases hj
        have hgj : S.getD j [] = s := by simp [List.getD, hj]
        have hple := hpre.length_le
        rw [List.length_drop] at hple
        have inner : k ≤ p → ∀ (m3 : Nat) (r : Nat) (left rl : Int) (o8 : Option Value), am_nl o8 = true → S.length - r < m3 → r ≤ S.length → 0 ≤ left → left < 3 → ((rl = -1 ∧ mt_pk (xs.drop f) (fun L => (mt_us S (xs.drop f)).getD L 0) (S.drop r) r left = some ((j : Int), s.length, sk2)) ∨ (rl = (j : Int) ∧ left = sk2)) → am_Go SH mX11_ruleIn 2 (am_rI (fun x σ2 => x = T ∧ σ2 = σ)) 49 [some (.ref 0), some (.int (iZ which)), some (.int (iZ p)), some (.int (iZ (f : Int))), some (.int (iZ left)), some (.int (iZ rl)), some (.int (iZ k)), some (.int (iZ (r : Int))), o8] [] σ := by
          intro hkp m3
          induction m3 with
          | zero => intro r left rl o8 _ hm3; exact absurd hm3 (by omega)
          | succ m3 ih3 =>
            intro r left rl o8 n8 hm3 hr l0 l1 hi
            have hrlR : inR rl := by rcases hi with z | z <;> (unfold inR; omega)
            have fin : rl = (j : Int) → left = sk2 → am_Go SH mX11_ruleIn 2 (am_rI (fun x σ2 => x = T ∧ σ2 = σ)) 131 [some (.ref 0), some (.int (iZ which)), some (.int (iZ p)), some (.int (iZ (f : Int))), some (.int (iZ left)), some (.int (iZ rl)), some (.int (iZ k)), some (.int (iZ (r : Int))), o8] [] σ := by
              intro e1 e2
              subst e1 e2
              have slj := sl j (by omega)
              rw [hgj] at slj
              refine go_iload_n dX11_ruleIn_131 rfl ?_
              refine go_aload_n dX11_ruleIn_132 rfl ?_
              refine go_iload dX11_ruleIn_133 rfl ?_
              refine go_cvP1 (M2 := mX11_signLength) dX11_ruleIn_135 ml_X11_137 mv_X11_signLength sh_0 rfl rfl (Nat.le_of_ble_eq_true rfl) (by decide) (slj) ?_
              refine go_iadd dX11_ruleIn_138 ?_
              refine go_ist3 dX11_ruleIn_139 (Nat.le_of_ble_eq_true rfl) rfl ?_
              refine go_inc6 dX11_ruleIn_140 (Nat.le_of_ble_eq_true rfl) rfl ?_
              refine go_goto (tgt := 27) dX11_ruleIn_143 (by decide) ?_
              have hdd : xs.drop (f + s.length) = (xs.drop f).drop s.length := by rw [List.drop_drop]
              refine ih (f + s.length) f2 left j (k + 1) _ _ rfl n8 (by omega) (by omega) (by omega) hsk0 (by rw [hdd]; exact hsk1) hrlR (by omega) p0 ?_ (by omega)
              rw [hdd]
              rcases hinv with z | z
              · by_cases q : k = p
                · refine Or.inr ⟨by omega, ?_⟩
                  have z2 := z.2
                  rw [show p - k = 0 by omega, rowAt_0] at z2
                  exact z2
                · refine Or.inl ⟨by omega, ?_⟩
                  have z2 := z.2
                  rw [rowAt_s _ _ (by omega)] at z2
                  rw [show p - (k + 1) = p - k - 1 by omega]
                  exact z2
              · exact absurd z.1 (by omega)
            rcases hi with ⟨e1, e2⟩ | ⟨e1, e2⟩
            · subst e1
              by_cases hrl2 : r < S.length
              · rw [List.drop_eq_getElem_cons hrl2, ← getD_in hrl2] at e2
                have h1r : 1 ≤ (S.getD r []).length := by rw [getD_in hrl2]; exact hne _ (List.getElem_mem hrl2)
                have l4r := l4 r
                have ud := mt_us_drop S xs f (S.getD r []).length (by omega)
                have e3 : mt_pk (xs.drop f) (fun L => (mt_us S (xs.drop f)).getD L 0) (S.getD r [] :: S.drop (r + 1)) r left = if S.getD r [] <+: xs.drop f ∧ 0 < (S.getD r []).length then (if left < (mt_us S (xs.drop f)).getD (S.getD r []).length 0 then some ((r : Int), (S.getD r []).length, left) else mt_pk (xs.drop f) (fun L => (mt_us S (xs.drop f)).getD L 0) (S.drop (r + 1)) ((r : Int) + 1) (left - (mt_us S (xs.drop f)).getD (S.getD r []).length 0)) else mt_pk (xs.drop f) (fun L => (mt_us S (xs.drop f)).getD L 0) (S.drop (r + 1)) ((r : Int) + 1) left := rfl
                rw [e3, ud] at e2
                have tail : ∀ mn : Int, 0 ≤ mn → mn < 3 → (left < mn → some ((r : Int), (S.getD r []).length, left) = some ((j : Int), s.length, sk2)) → (¬ left < mn → mt_pk (xs.drop f) (fun L => (mt_us S (xs.drop f)).getD L 0) (S.drop (r + 1)) ((r : Int) + 1) (left - mn) = some ((j : Int), s.length, sk2)) → am_Go SH mX11_ruleIn 2 (am_rI (fun x σ2 => x = T ∧ σ2 = σ)) 91 [some (.ref 0), some (.int (iZ which)), some (.int (iZ p)), some (.int (iZ (f : Int))), some (.int (iZ left)), some (.int (iZ (-1))), some (.int (iZ k)), some (.int (iZ (r : Int))), o8] [.int (iZ mn)] σ := by
                  intro mn mn0 mn3 c1 c2
                  by_cases hc : left < mn
                  · have c3 := c1 hc
                    simp only [Option.some.injEq, Prod.mk.injEq] at c3
                    refine go_ist8 dX11_ruleIn_91 (Nat.le_of_ble_eq_true rfl) rfl ?_
                    refine go_iload dX11_ruleIn_93 rfl ?_
                    refine go_iload dX11_ruleIn_95 rfl ?_
                    refine go_icmp_ge (tgt := 105) dX11_ruleIn_97 (by decide) (by unfold inR; omega) (by unfold inR; omega) (fun b97 => ?_) (fun b97 => ?_)
                    · skip
                      omega
                    · skip
                      refine go_iload dX11_ruleIn_100 rfl ?_
                      refine go_goto (tgt := 106) dX11_ruleIn_102 (by decide) ?_
                      refine go_ist5 dX11_ruleIn_106 (Nat.le_of_ble_eq_true rfl) rfl ?_
                      refine go_iload dX11_ruleIn_108 rfl ?_
                      refine go_iload dX11_ruleIn_110 rfl ?_
                      refine go_iconst dX11_ruleIn_112 ?_
                      refine go_icmp_ne (tgt := 121) dX11_ruleIn_113 (by decide) (by unfold inR; omega) (by unfold inR; omega) (fun b113 => ?_) (fun b113 => ?_)
                      · skip
                        refine go_iconst dX11_ruleIn_121 ?_
                        refine go_isub dX11_ruleIn_122 ?_
                        refine go_ist4 dX11_ruleIn_123 (Nat.le_of_ble_eq_true rfl) rfl ?_
                        refine go_inc7 dX11_ruleIn_125 (Nat.le_of_ble_eq_true rfl) rfl ?_
                        refine go_goto (tgt := 49) dX11_ruleIn_128 (by decide) ?_
                        rw [Int.sub_zero]
                        exact ih3 (r + 1) left r _ rfl (by omega) (by omega) l0 l1 (Or.inr ⟨by omega, by omega⟩)
                      · skip
                        omega
                  · have c3 := c2 hc
                    refine go_ist8 dX11_ruleIn_91 (Nat.le_of_ble_eq_true rfl) rfl ?_
                    refine go_iload dX11_ruleIn_93 rfl ?_
                    refine go_iload dX11_ruleIn_95 rfl ?_
                    refine go_icmp_ge (tgt := 105) dX11_ruleIn_97 (by decide) (by unfold inR; omega) (by unfold inR; omega) (fun b97 => ?_) (fun b97 => ?_)
                    · skip
                      refine go_iconst dX11_ruleIn_105 ?_
                      refine go_ist5 dX11_ruleIn_106 (Nat.le_of_ble_eq_true rfl) rfl ?_
                      refine go_iload dX11_ruleIn_108 rfl ?_
                      refine go_iload dX11_ruleIn_110 rfl ?_
                      refine go_iconst dX11_ruleIn_112 ?_
                      refine go_icmp_ne (tgt := 121) dX11_ruleIn_113 (by decide) (by unfold inR; omega) (by unfold inR; omega) (fun b113 => ?_) (fun b113 => ?_)
                      · skip
                        exact absurd rfl b113
                      · skip
                        refine go_iload dX11_ruleIn_116 rfl ?_
                        refine go_goto (tgt := 122) dX11_ruleIn_118 (by decide) ?_
                        refine go_isub dX11_ruleIn_122 ?_
                        refine go_ist4 dX11_ruleIn_123 (Nat.le_of_ble_eq_true rfl) rfl ?_
                        refine go_inc7 dX11_ruleIn_125 (Nat.le_of_ble_eq_true rfl) rfl ?_
                        refine go_goto (tgt := 49) dX11_ruleIn_128 (by decide) ?_
                        exact ih3 (r + 1) (left - mn) (-1) _ rfl (by omega) (by omega) (by omega) (by omega) (Or.inl ⟨rfl, by push_cast; exact c3⟩)
                    · skip
                      omega
                have bu := mt_us_bd S xs (f + (S.getD r []).length)
                by_cases hpr : S.getD r [] <+: xs.drop f
                · have hle := hpr.length_le
                  rw [List.length_drop] at hle
                  rw [if_pos ⟨hpr, by omega⟩] at e2
                  have hu := (hsp (f + (S.getD r []).length) (by omega) (by omega)).2
                  push_cast at hu
                  refine go_iload dX11_ruleIn_49 rfl ?_
                  refine go_aload_n dX11_ruleIn_51 rfl ?_
                  refine go_geti fl_X11_109 dX11_ruleIn_52 sh_0 rfl ?_
                  rw [h.1]
                  refine go_icmp_ge (tgt := 131) dX11_ruleIn_55 (by decide) (by unfold inR; omega) (by unfold inR; omega) (fun b55 => ?_) (fun b55 => ?_)
                  · skip
                    omega
                  · skip
                    refine go_iload dX11_ruleIn_58 rfl ?_
                    refine go_iconst dX11_ruleIn_60 ?_
                    refine go_icmp_ne (tgt := 131) dX11_ruleIn_61 (by decide) (by unfold inR; omega) (by unfold inR; omega) (fun b61 => ?_) (fun b61 => ?_)
                    · skip
                      exact absurd rfl b61
                    · skip
                      refine go_aload_n dX11_ruleIn_64 rfl ?_
                      refine go_iload dX11_ruleIn_65 rfl ?_
                      refine go_iload_n dX11_ruleIn_67 rfl ?_
                      refine go_cvP2 (M2 := mX11_lies) dX11_ruleIn_68 ml_X11_170 mv_X11_lies sh_0 rfl rfl (Nat.le_of_ble_eq_true rfl) (by decide) (lies r f (by omega) (by omega)) ?_
                      rw [if_pos hpr]
                      refine go_if_eq (tgt := 90) dX11_ruleIn_71 (by decide) (by unfold inR; omega) (fun b71 => ?_) (fun b71 => ?_)
                      · skip
                        exact absurd b71 (by decide)
                      · skip
                        refine go_aload_n dX11_ruleIn_74 rfl ?_
                        refine go_getr fl_X11_49 dX11_ruleIn_75 sh_0 rfl ?_
                        refine go_iload_n dX11_ruleIn_78 rfl ?_
                        refine go_aload_n dX11_ruleIn_79 rfl ?_
                        refine go_iload dX11_ruleIn_80 rfl ?_
                        refine go_cvP1 (M2 := mX11_signLength) dX11_ruleIn_82 ml_X11_137 mv_X11_signLength sh_0 rfl rfl (Nat.le_of_ble_eq_true rfl) (by decide) (sl r (by omega)) ?_
                        refine go_iadd dX11_ruleIn_85 ?_
                        refine go_iaload dX11_ruleIn_86 (by first | assumption | rfl) (by first | assumption | exact Nat.le_of_ble_eq_true rfl) (by omega) (by omega) ?_
                        rw [hu]
                        refine go_goto (tgt := 91) dX11_ruleIn_87 (by decide) ?_
                        refine tail _ bu.1 bu.2 (fun z => ?_) (fun z => ?_)
                        · rw [if_pos z] at e2; exact e2
                        · rw [if_neg z] at e2; exact e2
                · rw [if_neg (fun z => hpr z.1)] at e2
                  refine go_iload dX11_ruleIn_49 rfl ?_
                  refine go_aload_n dX11_ruleIn_51 rfl ?_
                  refine go_geti fl_X11_109 dX11_ruleIn_52 sh_0 rfl ?_
                  rw [h.1]
                  refine go_icmp_ge (tgt := 131) dX11_ruleIn_55 (by decide) (by unfold inR; omega) (by unfold inR; omega) (fun b55 => ?_) (fun b55 => ?_)
                  · skip
                    omega
                  · skip
                    refine go_iload dX11_ruleIn_58 rfl ?_
                    refine go_iconst dX11_ruleIn_60 ?_
                    refine go_icmp_ne (tgt := 131) dX11_ruleIn_61 (by decide) (by unfold inR; omega) (by unfold inR; omega) (fun b61 => ?_) (fun b61 => ?_)
                    · skip
                      exact absurd rfl b61
                    · skip
                      refine go_aload_n dX11_ruleIn_64 rfl ?_
                      refine go_iload dX11_ruleIn_65 rfl ?_
                      refine go_iload_n dX11_ruleIn_67 rfl ?_
                      refine go_cvP2 (M2 := mX11_lies) dX11_ruleIn_68 ml_X11_170 mv_X11_lies sh_0 rfl rfl (Nat.le_of_ble_eq_true rfl) (by decide) (lies r f (by omega) (by omega)) ?_
                      rw [if_neg hpr]
                      refine go_if_eq (tgt := 90) dX11_ruleIn_71 (by decide) (by unfold inR; omega) (fun b71 => ?_) (fun b71 => ?_)
                      · skip
                        refine go_iconst dX11_ruleIn_90 ?_
                        exact tail 0 (by omega) (by omega) (fun z => absurd z (by omega)) (fun z => by rw [Int.sub_zero]; exact e2)
                      · skip
                        exact absurd rfl b71
              · rw [show S.drop r = [] from List.drop_eq_nil_of_le (by omega)] at e2
                cases e2
            · have hfn := fin e1 e2
              refine go_iload dX11_ruleIn_49 rfl ?_
              refine go_aload_n dX11_ruleIn_51 rfl ?_
              refine go_geti fl_X11_109 dX11_ruleIn_52 sh_0 rfl ?_
              rw [h.1]
              refine go_icmp_ge (tgt := 131) dX11_ruleIn_55 (by decide) (by unfold inR; omega) (by unfold inR; omega) (fun b55 => ?_) (fun b55 => ?_)
              · skip
                exact hfn
              · skip
                refine go_iload dX11_ruleIn_58 rfl ?_
                refine go_iconst dX11_ruleIn_60 ?_
                refine go_icmp_ne (tgt := 131) dX11_ruleIn_61 (by decide) hrlR (by unfold inR; omega) (fun b61 => ?_) (fun b61 => ?_)
                · skip
                  exact hfn
                · skip
                  omega
        refine go_iload dX11_ruleIn_27 rfl ?_
        refine go_iload_n dX11_ruleIn_29 rfl ?_
        refine go_icmp_gt (tgt := 146) dX11_ruleIn_30 (by decide) hkR hp (fun b30 => ?_) (fun b30 => ?_)
        · skip
          refine go_iload dX11_ruleIn_146 rfl ?_
          refine go_retI dX11_ruleIn_148 rfl ?_
          refine ⟨?_, rfl⟩
          rcases hinv with z | z
          · exact absurd z.1 (by omega)
          · exact z.2
        · skip
          refine go_iload_n dX11_ruleIn_33 rfl ?_
          refine go_aload_n dX11_ruleIn_34 rfl ?_
          refine go_geti fl_X11_167 dX11_ruleIn_35 sh_0 rfl ?_
          first | (rw [hw.1]) | skip
          refine go_icmp_ne (tgt := 43) dX11_ruleIn_38 (by decide) (by unfold inR; omega) (by unfold inR; omega) (fun b38 => ?_) (fun b38 => ?_)
          · skip
            refine go_iconst dX11_ruleIn_43 ?_
            refine go_ist5 dX11_ruleIn_44 (Nat.le_of_ble_eq_true rfl) rfl ?_
            refine go_iconst dX11_ruleIn_46 ?_
            refine go_ist7 dX11_ruleIn_47 (Nat.le_of_ble_eq_true rfl) rfl ?_
            have bs := mt_us_bd S (xs.drop f) 0
            exact inner (by omega) (S.length + 1) 0 sk (-1) _ n8 (by omega) (by omega) s0 (by omega) (Or.inl ⟨rfl, hpk⟩)
          · skip
            omega
  refine am_ev (by decide) [some (.ref 0), some (.int (iZ (which))), some (.int (iZ (p))), none, none, none, none, none, none] rfl (Nat.le_of_ble_eq_true rfl) ?_
  refine go_aload_n dX11_ruleIn_0 rfl ?_
  refine go_getr fl_X11_49 dX11_ruleIn_1 sh_0 rfl ?_
  refine go_iconst dX11_ruleIn_4 ?_
  refine go_iaload dX11_ruleIn_5 (by first | assumption | rfl) (by first | assumption | exact Nat.le_of_ble_eq_true rfl) (by omega) (by omega) ?_
  first | (rw [u0]) | skip
  refine go_iload_n dX11_ruleIn_6 rfl ?_
  refine go_icmp_le (tgt := 14) dX11_ruleIn_7 (by decide) (by unfold inR; omega) (by unfold inR; omega) (fun b7 => ?_) (fun b7 => ?_)
  · skip
    refine go_iconst dX11_ruleIn_14 ?_
    refine go_retI dX11_ruleIn_15 rfl ?_
    refine ⟨?_, rfl⟩
    rw [← hT]
    first
      | (unfold mt_pick; rw [if_neg (by omega)]; exact (rowAt_nil p).symm)
      | (unfold rowAt; rw [if_neg (by omega)])
  · skip
    refine go_iload_n dX11_ruleIn_10 rfl ?_
    refine go_if_ge (tgt := 16) dX11_ruleIn_11 (by decide) hp (fun b11 => ?_) (fun b11 => ?_)
    · skip
      refine go_iconst dX11_ruleIn_16 ?_
      refine go_ist3 dX11_ruleIn_17 (Nat.le_of_ble_eq_true rfl) rfl ?_
      refine go_iload_n dX11_ruleIn_18 rfl ?_
      refine go_ist4 dX11_ruleIn_19 (Nat.le_of_ble_eq_true rfl) rfl ?_
      refine go_iconst dX11_ruleIn_21 ?_
      refine go_ist5 dX11_ruleIn_22 (Nat.le_of_ble_eq_true rfl) rfl ?_
      refine go_iconst dX11_ruleIn_24 ?_
      refine go_ist6 dX11_ruleIn_25 (Nat.le_of_ble_eq_true rfl) rfl ?_
      refine outer (xs.length + 1) 0 xs.length which (-1) 0 none none rfl rfl (by omega) (by omega) (by omega) h0 (by rw [List.drop_zero]; omega) (by unfold inR; omega) (by omega) b11 (Or.inl ⟨b11, ?_⟩) (by omega)
      rw [← hT, List.drop_zero, Int.sub_zero]
      unfold mt_pick
      rw [if_pos (by omega)]
    · skip
      refine go_iconst dX11_ruleIn_14 ?_
      refine go_retI dX11_ruleIn_15 rfl ?_
      refine ⟨?_, rfl⟩
      rw [← hT]
      first
        | (unfold mt_pick; rw [if_neg (by omega)]; exact (rowAt_nil p).symm)
        | (unfold rowAt; rw [if_neg (by omega)])
theorem rowAt_ln {l : List Int} (hl : ∀ r ∈ l, 0 ≤ r) (p : Int) : (if rowAt l p = -1 then -101 else rowAt l p) = ln_at l p := by
  unfold rowAt
  by_cases c : 0 ≤ p ∧ p < l.length
  · rw [if_pos c, if_neg]
    have : 0 ≤ ln_at l p := by
      obtain ⟨n, rfl⟩ : ∃ n : Nat, p = (n : Int) := ⟨p.toNat, by omega⟩
      rw [ln_at_get (List.getElem?_eq_getElem (by omega : n < l.length))]
      exact hl _ (List.getElem_mem _)
    omega
  · rw [if_neg c, if_pos rfl]
    unfold ln_at
    rw [if_pos (by omega)]
theorem mt_pk_bd {t : List Int} {us : Nat → Int} : ∀ (S : List (List Int)) (i sk : Int) (a : Int) (b : Nat) (c : Int), mt_pk t us S i sk = some (a, b, c) → i ≤ a ∧ a < i + S.length
  | [], i, sk, a, b, c, h => by cases h
  | s :: S, i, sk, a, b, c, h => by
    have key : ∀ sk, mt_pk t us S (i + 1) sk = some (a, b, c) → i ≤ a ∧ a < i + (s :: S).length := fun sk z => by
      have := mt_pk_bd S (i + 1) sk a b c z
      rw [List.length_cons]; push_cast; omega
    rw [show mt_pk t us (s :: S) i sk = if s <+: t ∧ 0 < s.length then (if sk < us s.length then some (i, s.length, sk) else mt_pk t us S (i + 1) (sk - us s.length)) else mt_pk t us S (i + 1) sk from rfl] at h
    split at h
    · split at h
      · simp only [Option.some.injEq, Prod.mk.injEq] at h
        rw [List.length_cons]; push_cast; omega
      · exact key _ h
    · exact key _ h
theorem mt_row_bd {S : List (List Int)} : ∀ (f : Nat) (t : List Int) (sk : Int), (mt_row S f t sk).length ≤ f ∧ ∀ r ∈ mt_row S f t sk, 0 ≤ r ∧ r < S.length
  | 0, t, sk => ⟨by simp [mt_row], fun r hr => by simp [mt_row] at hr⟩
  | f + 1, t, sk => by
    by_cases ht : t = []
    · subst ht; rw [mt_row_nil]; exact ⟨by simp, fun r hr => by simp at hr⟩
    · show (if t = [] then [] else _ : List Int).length ≤ _ ∧ ∀ r ∈ (if t = [] then [] else _ : List Int), _
      rw [if_neg ht]
      cases hp : mt_pk t (fun L => (mt_us S t).getD L 0) S 0 sk with
      | none => exact ⟨by simp, fun r hr => by simp at hr⟩
      | some q =>
        have ih := mt_row_bd f (t.drop q.2.1) q.2.2 (S := S)
        have hb := mt_pk_bd S 0 sk q.1 q.2.1 q.2.2 hp
        refine ⟨by simp only [List.length_cons]; omega, fun r hr => ?_⟩
        rcases List.mem_cons.mp hr with z | z
        · rw [z]; omega
        · exact ih.2 r z
theorem mt_pick_bd (S : List (List Int)) (t : List Int) (w : Int) : (mt_pick S t w).length ≤ t.length ∧ ∀ r ∈ mt_pick S t w, 0 ≤ r ∧ r < S.length := by
  unfold mt_pick
  split
  · exact mt_row_bd _ _ _
  · exact ⟨by simp, fun r hr => by simp at hr⟩
theorem rowAt_R {l : List Int} {n : Int} (hn : inR n) (hl : ∀ r ∈ l, 0 ≤ r ∧ r < n) (p : Int) : inR (rowAt l p) := by
  unfold rowAt
  split
  · exact ln_at_R (fun x hx => by have := hl x hx; unfold inR at *; omega)
  · unfold inR; omega
theorem ev_X11_firstNow {σ : am_St} {s : mS} {p : Int} (h : RepM σ s) (hp : inR p) : am_Ev SH mX11_firstNow 3 [.ref 0, .int (iZ p)] σ (am_rI (fun x σ2 => x = ln_at (m_row1 s) p ∧ RepM σ2 s ∧ am_off XM σ σ2)) := by
  have h8 := h.1.2.2.2.2.2.1
  have hb := (mt_pick_bd (mt_sg s.2.1 s.2.2.1) s.2.2.2.1 0).2
  have hln := rowAt_ln (fun r hr => (hb r hr).1) p
  have hR := rowAt_R (n := ((mt_sg s.2.1 s.2.2.1).length : Int)) (by rw [mt_sg_len]; unfold inR; omega) hb p
  refine am_ev (by decide) [some (.ref 0), some (.int (iZ (p))), none] rfl (Nat.le_of_ble_eq_true rfl) ?_
  refine go_aload_n dX11_firstNow_0 rfl ?_
  refine go_cvV0 (M2 := mX11_workText) dX11_firstNow_1 ml_X11_183 mv_X11_workText sh_0 rfl rfl (Nat.le_of_ble_eq_true rfl) (by decide) (ev_X11_workText h) (fun σ1 hq1 => ?_)
  have g1 := h.fr hq1.2 (by decide) (by decide)
  refine go_aload_n dX11_firstNow_4 rfl ?_
  refine go_cvV0 (M2 := mX11_layWays) dX11_firstNow_5 ml_X11_195 mv_X11_layWays sh_0 rfl rfl (Nat.le_of_ble_eq_true rfl) (by decide) (ev_X11_layWays g1.1 hq1.1) (fun σ2 hq2 => ?_)
  have g2 := g1.fr hq2.2 (by decide) (by decide)
  refine go_aload_n dX11_firstNow_8 rfl ?_
  refine go_iconst dX11_firstNow_9 ?_
  refine go_iload_n dX11_firstNow_10 rfl ?_
  refine go_cvP2 (M2 := mX11_ruleIn) dX11_firstNow_11 ml_X11_201 mv_X11_ruleIn sh_0 rfl rfl (Nat.le_of_ble_eq_true rfl) (by decide) (ev_X11_ruleIn g2.1 (hq1.1.fr hq2.2 (by decide) (by decide)) hq2.1 (by omega) (by omega) hp) ?_
  refine go_ist2 dX11_firstNow_14 (Nat.le_of_ble_eq_true rfl) rfl ?_
  refine go_iload_n dX11_firstNow_15 rfl ?_
  refine go_iconst dX11_firstNow_16 ?_
  refine go_icmp_ne (tgt := 25) dX11_firstNow_17 (by decide) hR (by unfold inR; omega) (fun b17 => ?_) (fun b17 => ?_)
  · skip
    refine go_iload_n dX11_firstNow_25 rfl ?_
    refine go_retI dX11_firstNow_26 rfl ?_
    refine ⟨?_, g2, ((hq1.2.wk (fs' := WKF) (as' := WKA) (by decide) (by decide)).tr (hq2.2.wk (by decide) (by decide))).off (by decide)⟩
    unfold m_row1
    rw [← hln]
    first | (rw [if_pos b17]; done) | (rw [if_neg b17]; done)
  · skip
    refine go_bipush dX11_firstNow_20 rfl ?_
    refine go_goto (tgt := 26) dX11_firstNow_22 (by decide) ?_
    refine go_retI dX11_firstNow_26 rfl ?_
    refine ⟨?_, g2, ((hq1.2.wk (fs' := WKF) (as' := WKA) (by decide) (by decide)).tr (hq2.2.wk (by decide) (by decide))).off (by decide)⟩
    unfold m_row1
    rw [← hln]
    first | (rw [if_pos b17]; done) | (rw [if_neg b17]; done)
theorem ev_X11_first {σ : am_St} {s : mS} {p : Int} (h : RepM σ s) (hp : inR p) : am_Ev SH mX11_first 4 [.ref 0, .int (iZ p)] σ (am_rI (fun x σ2 => x = ln_at (m_row1 s) p ∧ RepM σ2 s ∧ am_off XM σ σ2)) := by
  refine am_ev (by decide) [some (.ref 0), some (.int (iZ (p)))] rfl (Nat.le_of_ble_eq_true rfl) ?_
  refine go_aload_n dX11_first_0 rfl ?_
  refine go_iload_n dX11_first_1 rfl ?_
  refine go_cvI1 (M2 := mX11_firstNow) dX11_first_2 ml_X11_204 mv_X11_firstNow sh_0 rfl rfl (Nat.le_of_ble_eq_true rfl) (by decide) (ev_X11_firstNow h hp) (fun x σ1 hq => ?_)
  refine go_retI dX11_first_5 rfl ?_
  exact hq
