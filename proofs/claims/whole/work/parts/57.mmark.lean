/-! ===== the reference: mark, drop, rule, sign, ink, count ===== -/
theorem ev_X11_mark {σ : am_St} {s : mS} {r : Int} (h : RepM σ s) (hr : inR r) : am_Ev SH mX11_mark 2 [.ref 0, .int (iZ r)] σ (am_rI (fun x σ2 => x = (m_mark s r).1 ∧ RepM σ2 (m_mark s r).2 ∧ am_off XM σ σ2)) := by
  have hrep := h
  obtain ⟨h1, h2, h3, h4, h5⟩ := h
  have ht := h1.2.2.2.2
  have hm := ht.mk
  have h8 := ht.2.1
  refine am_ev (by decide) [some (.ref 0), some (.int (iZ (r)))] rfl (Nat.le_of_ble_eq_true rfl) ?_
  refine go_aload_n dX11_mark_0 rfl ?_
  refine go_iload_n dX11_mark_1 rfl ?_
  refine go_cvP1 (M2 := mX11_isRule) dX11_mark_2 ml_X11_150 mv_X11_isRule sh_0 rfl rfl (Nat.le_of_ble_eq_true rfl) (by decide) (ev_X11_isRule h1 hr) ?_
  refine go_if_ne (tgt := 11) dX11_mark_5 (by decide) (by unfold inR; split <;> omega) (fun b5 => ?_) (fun b5 => ?_)
  · skip
    have hc : 0 ≤ r ∧ r < s.2.1.length := by by_cases z : 0 ≤ r ∧ r < (s.2.1.length : Int); exact z; rw [if_neg z] at b5; exact absurd rfl b5
    obtain ⟨n, rfl⟩ : ∃ n : Nat, r = (n : Int) := ⟨r.toNat, by omega⟩
    have hn : n < s.2.1.length := by omega
    have hp : 2 ^ n < 2 ^ s.2.1.length := Nat.pow_lt_pow_right (by decide) hn
    have hp8 : 2 ^ s.2.1.length ≤ 2 ^ 8 := Nat.pow_le_pow_right (by decide) h8
    have hx : s.2.2.1 ^^^ 2 ^ n < 2 ^ s.2.1.length := Nat.xor_lt_two_pow ht.2.2.1 hp
    refine go_aload_n dX11_mark_11 rfl ?_
    refine go_dup dX11_mark_12 rfl ?_
    refine go_geti fl_X11_112 dX11_mark_13 sh_0 rfl ?_
    rw [h2]
    refine go_iconst dX11_mark_16 ?_
    refine go_iload_n dX11_mark_17 rfl ?_
    refine go_ishl dX11_mark_18 ?_
    refine go_ixor dX11_mark_19 ?_
    rw [show (1 : Int) = ((1 : Nat) : Int) from rfl, am_shlN (by omega) (by omega), Nat.one_mul, am_xorN (by omega) (by omega)]
    refine go_puti fl_X11_112 dX11_mark_20 sh_0 rfl am_fit_int ?_
    refine go_aload_n dX11_mark_23 rfl ?_
    refine go_aload_n dX11_mark_24 rfl ?_
    refine go_geti fl_X11_112 dX11_mark_25 sh_0 rfl ?_
    rw [show (am_si σ 0 5 ((s.2.2.1 ^^^ 2 ^ n : Nat) : Int)).1 0 5 = ((s.2.2.1 ^^^ 2 ^ n : Nat) : Int) by simp [am_si]]
    refine go_puti fl_X11_115 dX11_mark_28 sh_0 rfl am_fit_int ?_
    refine go_aload_n dX11_mark_31 rfl ?_
    refine go_geti fl_X11_112 dX11_mark_32 sh_0 rfl ?_
    rw [show (am_si (am_si σ 0 5 ((s.2.2.1 ^^^ 2 ^ n : Nat) : Int)) 0 6 ((s.2.2.1 ^^^ 2 ^ n : Nat) : Int)).1 0 5 = ((s.2.2.1 ^^^ 2 ^ n : Nat) : Int) by simp [am_si]]
    refine go_iload_n dX11_mark_35 rfl ?_
    refine go_ishr dX11_mark_36 ?_
    refine go_iconst dX11_mark_37 ?_
    refine go_iand dX11_mark_38 ?_
    rw [mt_bit (by omega) (by omega)]
    refine go_retI dX11_mark_39 rfl ?_
    have oo : fr [5, 6] [] σ (am_si (am_si σ 0 5 ((s.2.2.1 ^^^ 2 ^ n : Nat) : Int)) 0 6 ((s.2.2.1 ^^^ 2 ^ n : Nat) : Int)) := (fr_si (by decide)).tr (fr_si (by decide))
    unfold m_mark
    rw [if_pos hc, Int.toNat_natCast]
    refine ⟨rfl, ⟨⟨by rw [oo.f 0 (by decide)]; exact h1.1, by simp [am_si], h1.2.2.1.fr oo (by decide) (by decide), h1.2.2.2.1.fr oo (by decide) (by decide), ht.1, h8, hx, ht.2.2.2⟩, by simp [am_si], ⟨by rw [oo.f 7 (by decide)]; exact h3.1, h3.2.1.fr oo (by decide), h3.2.2⟩, ⟨by rw [oo.f 9 (by decide)]; exact h4.1, h4.2.1.fr oo (by decide), h4.2.2⟩, by rw [oo.f 11 (by decide)]; exact h5.1, by rw [oo.f 12 (by decide)]; exact h5.2.1, by rw [oo.f 13 (by decide)]; exact h5.2.2.1, by rw [oo.f 29 (by decide)]; exact h5.2.2.2⟩, oo.off (by decide)⟩
  · skip
    refine go_bipush dX11_mark_8 rfl ?_
    refine go_retI dX11_mark_10 rfl ?_
    have hc : ¬ (0 ≤ r ∧ r < s.2.1.length) := fun z => by rw [if_pos z] at b5; exact absurd b5 (by decide)
    unfold m_mark
    rw [if_neg hc]; exact ⟨rfl, hrep, am_off.rf⟩
theorem m_dropN {mk r n : Nat} (hmk : mk < 256) (hr : r < 8) : am_or (am_and (mk : Int) (am_shl 1 (r : Int) - 1)) (am_shl (am_shr (mk : Int) ((r : Int) + 1)) (r : Int)) = ((mt_drop mk r : Nat) : Int) := by
  have p1 : 2 ^ r ≤ 2 ^ 8 := Nat.pow_le_pow_right (by decide) (by omega)
  have p0 : 0 < 2 ^ r := Nat.two_pow_pos r
  have m1 : am_and (mk : Int) (am_shl 1 (r : Int) - 1) = ((mk % 2 ^ r : Nat) : Int) := by
    rw [show (1 : Int) = ((1 : Nat) : Int) from rfl, am_shlN (by omega) (by omega), Nat.one_mul, show ((2 ^ r : Nat) : Int) - ((1 : Nat) : Int) = ((2 ^ r - 1 : Nat) : Int) by omega, am_andN (by omega), Nat.and_two_pow_sub_one_eq_mod]
  have q1 : mk / 2 ^ (r + 1) * 2 ^ r ≤ mk := by
    have : mk / 2 ^ (r + 1) * 2 ^ (r + 1) ≤ mk := Nat.div_mul_le_self _ _
    generalize mk / 2 ^ (r + 1) = D at this ⊢
    rw [Nat.pow_succ, ← Nat.mul_assoc] at this
    omega
  have m2 : am_shl (am_shr (mk : Int) ((r : Int) + 1)) (r : Int) = ((mk / 2 ^ (r + 1) * 2 ^ r : Nat) : Int) := by
    rw [show (r : Int) + 1 = ((r + 1 : Nat) : Int) by omega, am_shrN (by omega) (by omega), am_shlN (by omega) (by omega)]
  rw [m1, m2, am_orN (Nat.lt_of_le_of_lt (Nat.mod_le _ _) (by omega)) (by omega)]
  rfl
/-- words pushed up by one from r on, up to the k-th; of the k-th q characters -/
def shM (σ0 σ1 : am_St) (r k q : Int) : Prop := (∀ i : Int, σ1.2.2 1 i = (if r ≤ i ∧ i < k then σ0.2.2 1 (i + 1) else σ0.2.2 1 i) ∧ σ1.2.2 2 i = (if r ≤ i ∧ i < k then σ0.2.2 2 (i + 1) else σ0.2.2 2 i)) ∧ ∀ i : Int, σ1.2.2 3 i = (if 3 * r ≤ i ∧ i < q then σ0.2.2 3 (i + 3) else σ0.2.2 3 i) ∧ σ1.2.2 4 i = (if 3 * r ≤ i ∧ i < q then σ0.2.2 4 (i + 3) else σ0.2.2 4 i)
theorem wdA_sh {σ σ1 : am_St} {W : List (List Int)} {kl ka r : Nat} (h : wdA σ kl ka W) (hr : r < W.length) (h3 : ∀ x ∈ W, x.length ≤ 3) (e1 : ∀ i : Int, σ1.2.2 kl i = (if (r : Int) ≤ i ∧ i < (W.length : Int) - 1 then σ.2.2 kl (i + 1) else σ.2.2 kl i)) (e2 : ∀ i : Int, σ1.2.2 ka i = (if 3 * (r : Int) ≤ i ∧ i < 3 * ((W.length : Int) - 1) then σ.2.2 ka (i + 3) else σ.2.2 ka i)) : wdA σ1 kl ka (W.eraseIdx r) := by
  intro i hi
  have hl : (W.eraseIdx r).length = W.length - 1 := by rw [List.length_eraseIdx, if_pos hr]
  rw [hl] at hi
  have ge : (W.eraseIdx r).getD i [] = if i < r then W.getD i [] else W.getD (i + 1) [] := by
    simp only [List.getD, List.getElem?_eraseIdx]
    split <;> rfl
  rw [ge]
  by_cases c : i < r
  · rw [if_pos c]
    have key := h i (by omega)
    have l3 : (W.getD i []).length ≤ 3 := by rw [getD_in (by omega)]; exact h3 _ (List.getElem_mem _)
    refine ⟨by rw [e1, if_neg (by omega)]; exact key.1, fun j hj => ?_⟩
    rw [e2, if_neg (by omega)]
    exact key.2 j hj
  · rw [if_neg c]
    have key := h (i + 1) (by omega)
    have l3 : (W.getD (i + 1) []).length ≤ 3 := by rw [getD_in (by omega)]; exact h3 _ (List.getElem_mem _)
    refine ⟨by rw [e1, if_pos (by omega)]; exact key.1, fun j hj => ?_⟩
    rw [e2, if_pos (by omega)]
    have := key.2 j hj
    rw [show 3 * (i : Int) + (j : Int) + 3 = 3 * ((i + 1 : Nat) : Int) + (j : Int) by omega]
    exact this
theorem ev_X11_drop {σ : am_St} {s : mS} {r0 : Int} (h : RepM σ s) (hr0 : inR r0) : am_Ev SH mX11_drop 2 [.ref 0, .int (iZ r0)] σ (am_rI (fun x σ2 => x = (m_drop s r0).1 ∧ RepM σ2 (m_drop s r0).2 ∧ am_off XM σ σ2)) := by
  have hrep := h
  obtain ⟨h1, h2, h3, h4, h5⟩ := h
  have ht := h1.2.2.2.2
  have hm := ht.mk
  have h8 := ht.2.1
  have hL := ht.1
  by_cases hc : 0 ≤ r0 ∧ r0 < s.2.1.length
  · obtain ⟨r, rfl⟩ : ∃ n : Nat, r0 = (n : Int) := ⟨r0.toNat, by omega⟩
    have hr : r < s.2.1.length := by omega
    have hdl := mt_drop_lt ht.2.2.1 hr
    have tok : tabOK (s.1.eraseIdx r) (s.2.1.eraseIdx r) (mt_drop s.2.2.1 r) := by
      refine ⟨?_, ?_, ?_, fun l hl => ht.2.2.2.1 l (List.mem_of_mem_eraseIdx hl), fun l hl => ht.2.2.2.2 l (List.mem_of_mem_eraseIdx hl)⟩
      · rw [List.length_eraseIdx, List.length_eraseIdx, hL]
      · have := List.length_eraseIdx_le s.2.1 r; omega
      · rw [List.length_eraseIdx, if_pos hr]; exact hdl
    have hmd : m_drop s (r : Int) = ((s.2.1.length : Int) - 1, (s.1.eraseIdx r, s.2.1.eraseIdx r, mt_drop s.2.2.1 r, s.2.2.2)) := by unfold m_drop; rw [if_pos hc, Int.toNat_natCast]
    have loop : ∀ (m2 : Nat) (k : Nat) (o : Option Value) (σ1 : am_St), am_nl o = true → s.2.1.length - k < m2 → r ≤ k → k < s.2.1.length → fr [0] [1, 2, 3, 4] σ σ1 → σ1.1 0 0 = (s.2.1.length : Int) - 1 → shM σ σ1 r k (3 * k) → am_Go SH mX11_drop 2 (am_rI (fun x σ2 => x = (m_drop s (r : Int)).1 ∧ RepM σ2 (m_drop s (r : Int)).2 ∧ am_off XM σ σ2)) 23 [some (.ref 0), some (.int (iZ (r : Int))), some (.int (iZ (k : Int))), o] [] σ1 := by
      intro m2
      induction m2 with
      | zero => intro k o σ1 _ hm; exact absurd hm (by omega)
      | succ m2 ih =>
        intro k o σ1 no hm2 hrk hk ho q1 hsh
        have inner : k + 1 < s.2.1.length → ∀ (m3 : Nat) (i : Nat) (σ1 : am_St), 3 - i < m3 → i ≤ 3 → fr [0] [1, 2, 3, 4] σ σ1 → σ1.1 0 0 = (s.2.1.length : Int) - 1 → shM σ σ1 r (k + 1) (3 * k + i) → am_Go SH mX11_drop 2 (am_rI (fun x σ2 => x = (m_drop s (r : Int)).1 ∧ RepM σ2 (m_drop s (r : Int)).2 ∧ am_off XM σ σ2)) 61 [some (.ref 0), some (.int (iZ (r : Int))), some (.int (iZ (k : Int))), some (.int (iZ (i : Int)))] [] σ1 := by
          intro hk1 m3
          induction m3 with
          | zero => intro i σ1 hm3; exact absurd hm3 (by omega)
          | succ m3 ih3 =>
            intro i σ1 hm3 hi ho q1 hsh
            refine go_iload_n dX11_drop_61 rfl ?_
            refine go_iconst dX11_drop_62 ?_
            refine go_icmp_ge (tgt := 116) dX11_drop_63 (by decide) (by unfold inR; omega) (by unfold inR; omega) (fun b63 => ?_) (fun b63 => ?_)
            · skip
              refine go_inc2 dX11_drop_116 (Nat.le_of_ble_eq_true rfl) rfl ?_
              refine go_goto (tgt := 23) dX11_drop_119 (by decide) ?_
              refine ih (k + 1) _ _ rfl (by omega) (by omega) (by omega) ho q1 ?_
              rw [show (3 * ((k + 1 : Nat) : Int)) = 3 * (k : Int) + (i : Int) by omega]
              push_cast
              exact hsh
            · skip
              refine go_aload_n dX11_drop_66 rfl ?_
              refine go_getr fl_X11_16 dX11_drop_67 sh_0 rfl ?_
              refine go_iconst dX11_drop_70 ?_
              refine go_iload_n dX11_drop_71 rfl ?_
              refine go_imul dX11_drop_72 ?_
              refine go_iload_n dX11_drop_73 rfl ?_
              refine go_iadd dX11_drop_74 ?_
              refine go_aload_n dX11_drop_75 rfl ?_
              refine go_getr fl_X11_16 dX11_drop_76 sh_0 rfl ?_
              refine go_iconst dX11_drop_79 ?_
              refine go_iload_n dX11_drop_80 rfl ?_
              refine go_imul dX11_drop_81 ?_
              refine go_iconst dX11_drop_82 ?_
              refine go_iadd dX11_drop_83 ?_
              refine go_iload_n dX11_drop_84 rfl ?_
              refine go_iadd dX11_drop_85 ?_
              refine go_iaload dX11_drop_86 (by first | assumption | rfl) (by first | assumption | exact Nat.le_of_ble_eq_true rfl) (by omega) (by omega) ?_
              refine go_iastore dX11_drop_87 (by first | assumption | rfl) (by first | assumption | exact Nat.le_of_ble_eq_true rfl) (by omega) (by omega) ?_
              refine go_aload_n dX11_drop_88 rfl ?_
              refine go_getr fl_X11_19 dX11_drop_89 sh_0 rfl ?_
              refine go_iconst dX11_drop_92 ?_
              refine go_iload_n dX11_drop_93 rfl ?_
              refine go_imul dX11_drop_94 ?_
              refine go_iload_n dX11_drop_95 rfl ?_
              refine go_iadd dX11_drop_96 ?_
              refine go_aload_n dX11_drop_97 rfl ?_
              refine go_getr fl_X11_19 dX11_drop_98 sh_0 rfl ?_
              refine go_iconst dX11_drop_101 ?_
              refine go_iload_n dX11_drop_102 rfl ?_
              refine go_imul dX11_drop_103 ?_
              refine go_iconst dX11_drop_104 ?_
              refine go_iadd dX11_drop_105 ?_
              refine go_iload_n dX11_drop_106 rfl ?_
              refine go_iadd dX11_drop_107 ?_
              refine go_iaload dX11_drop_108 (by first | assumption | rfl) (by first | assumption | exact Nat.le_of_ble_eq_true rfl) (by omega) (by omega) ?_
              refine go_iastore dX11_drop_109 (by first | assumption | rfl) (by first | assumption | exact Nat.le_of_ble_eq_true rfl) (by omega) (by omega) ?_
              refine go_inc3 dX11_drop_110 (Nat.le_of_ble_eq_true rfl) rfl ?_
              refine go_goto (tgt := 61) dX11_drop_113 (by decide) ?_
              refine ih3 (i + 1) _ (by omega) (by omega) ((ho.tr (fr_sa (by decide))).tr (fr_sa (by decide))) q1 ⟨fun a => ?_, fun a => ?_⟩
              · have := hsh.1 a; simpa [am_sa] using this
              · have h0 := hsh.2 a
                have h00 := hsh.2 (3 * (k : Int) + 3 + (i : Int))
                by_cases e : a = 3 * (k : Int) + (i : Int)
                · rw [if_neg (by omega), if_neg (by omega)] at h00
                  rw [if_pos (by omega), if_pos (by omega)]
                  subst e
                  rw [show 3 * (k : Int) + (i : Int) + 3 = 3 * (k : Int) + 3 + (i : Int) by omega]
                  simpa [am_sa] using h00
                · simp only [am_sa, e, and_false, if_false]
                  by_cases e2 : 3 * (r : Int) ≤ a ∧ a < 3 * (k : Int) + (i : Int)
                  · rw [if_pos e2, if_pos e2] at h0; rw [if_pos (by omega), if_pos (by omega)]; exact h0
                  · rw [if_neg e2, if_neg e2] at h0; rw [if_neg (by omega), if_neg (by omega)]; exact h0
        refine go_iload_n dX11_drop_23 rfl ?_
        refine go_aload_n dX11_drop_24 rfl ?_
        refine go_geti fl_X11_109 dX11_drop_25 sh_0 rfl ?_
        first | (rw [q1]) | skip
        refine go_icmp_ge (tgt := 122) dX11_drop_28 (by decide) (by unfold inR; omega) (by unfold inR; omega) (fun b28 => ?_) (fun b28 => ?_)
        · skip
          refine go_aload_n dX11_drop_122 rfl ?_
          refine go_aload_n dX11_drop_123 rfl ?_
          refine go_geti fl_X11_112 dX11_drop_124 sh_0 rfl ?_
          first | (rw [q1]) | skip
          rw [show σ1.1 0 5 = (s.2.2.1 : Int) by rw [ho.f 5 (by decide)]; exact h2]
          refine go_iconst dX11_drop_127 ?_
          refine go_iload_n dX11_drop_128 rfl ?_
          refine go_ishl dX11_drop_129 ?_
          refine go_iconst dX11_drop_130 ?_
          refine go_isub dX11_drop_131 ?_
          refine go_iand dX11_drop_132 ?_
          refine go_aload_n dX11_drop_133 rfl ?_
          refine go_geti fl_X11_112 dX11_drop_134 sh_0 rfl ?_
          first | (rw [q1]) | skip
          first | rw [show σ1.1 0 5 = (s.2.2.1 : Int) by rw [ho.f 5 (by decide)]; exact h2] | skip
          refine go_iload_n dX11_drop_137 rfl ?_
          refine go_iconst dX11_drop_138 ?_
          refine go_iadd dX11_drop_139 ?_
          refine go_ishr dX11_drop_140 ?_
          refine go_iload_n dX11_drop_141 rfl ?_
          refine go_ishl dX11_drop_142 ?_
          refine go_ior dX11_drop_143 ?_
          rw [m_dropN (n := 0) hm (by omega)]
          refine go_puti fl_X11_112 dX11_drop_144 sh_0 rfl am_fit_int ?_
          refine go_aload_n dX11_drop_147 rfl ?_
          refine go_aload_n dX11_drop_148 rfl ?_
          refine go_geti fl_X11_112 dX11_drop_149 sh_0 rfl ?_
          first | (rw [q1]) | skip
          rw [show (am_si σ1 0 5 ((mt_drop s.2.2.1 r : Nat) : Int)).1 0 5 = ((mt_drop s.2.2.1 r : Nat) : Int) by simp [am_si]]
          refine go_puti fl_X11_115 dX11_drop_152 sh_0 rfl am_fit_int ?_
          refine go_aload_n dX11_drop_155 rfl ?_
          refine go_geti fl_X11_109 dX11_drop_156 sh_0 rfl ?_
          first | (rw [q1]) | skip
          rw [show (am_si (am_si σ1 0 5 ((mt_drop s.2.2.1 r : Nat) : Int)) 0 6 ((mt_drop s.2.2.1 r : Nat) : Int)).1 0 0 = (s.2.1.length : Int) - 1 from q1]
          refine go_retI dX11_drop_159 rfl ?_
          have hk2 : (k : Int) = (s.2.1.length : Int) - 1 := by omega
          rw [hk2] at hsh
          have oo : fr [0, 5, 6] [1, 2, 3, 4] σ (am_si (am_si σ1 0 5 ((mt_drop s.2.2.1 r : Nat) : Int)) 0 6 ((mt_drop s.2.2.1 r : Nat) : Int)) := ((ho.wk (by decide) (by decide)).tr (fr_si (by decide))).tr (fr_si (by decide))
          rw [hmd]
          refine ⟨rfl, ⟨⟨?_, by simp [am_si], ?_, ?_, tok⟩, by simp [am_si], ⟨by rw [oo.f 7 (by decide)]; exact h3.1, h3.2.1.fr oo (by decide), h3.2.2⟩, ⟨by rw [oo.f 9 (by decide)]; exact h4.1, h4.2.1.fr oo (by decide), h4.2.2⟩, by rw [oo.f 11 (by decide)]; exact h5.1, by rw [oo.f 12 (by decide)]; exact h5.2.1, by rw [oo.f 13 (by decide)]; exact h5.2.2.1, by rw [oo.f 29 (by decide)]; exact h5.2.2.2⟩, oo.off (by decide)⟩
          · simp only []; rw [List.length_eraseIdx, if_pos hr]; have : σ1.1 0 0 = (s.2.1.length : Int) - 1 := q1; simp only [am_si]; simp; omega
          · exact wdA_sh h1.2.2.1 (by omega) (fun x hx => (ht.2.2.2.1 x hx).2.2) (fun i => by rw [hL]; exact (hsh.1 i).1) (fun i => by rw [hL]; exact (hsh.2 i).1)
          · exact wdA_sh h1.2.2.2.1 hr (fun x hx => (ht.2.2.2.2 x hx).2.2) (fun i => (hsh.1 i).2) (fun i => (hsh.2 i).2)
        · skip
          refine go_aload_n dX11_drop_31 rfl ?_
          refine go_getr fl_X11_7 dX11_drop_32 sh_0 rfl ?_
          refine go_iload_n dX11_drop_35 rfl ?_
          refine go_aload_n dX11_drop_36 rfl ?_
          refine go_getr fl_X11_7 dX11_drop_37 sh_0 rfl ?_
          refine go_iload_n dX11_drop_40 rfl ?_
          refine go_iconst dX11_drop_41 ?_
          refine go_iadd dX11_drop_42 ?_
          refine go_iaload dX11_drop_43 (by first | assumption | rfl) (by first | assumption | exact Nat.le_of_ble_eq_true rfl) (by omega) (by omega) ?_
          first | (rw [q1]) | skip
          refine go_iastore dX11_drop_44 (by first | assumption | rfl) (by first | assumption | exact Nat.le_of_ble_eq_true rfl) (by omega) (by omega) ?_
          refine go_aload_n dX11_drop_45 rfl ?_
          refine go_getr fl_X11_13 dX11_drop_46 sh_0 rfl ?_
          refine go_iload_n dX11_drop_49 rfl ?_
          refine go_aload_n dX11_drop_50 rfl ?_
          refine go_getr fl_X11_13 dX11_drop_51 sh_0 rfl ?_
          refine go_iload_n dX11_drop_54 rfl ?_
          refine go_iconst dX11_drop_55 ?_
          refine go_iadd dX11_drop_56 ?_
          refine go_iaload dX11_drop_57 (by first | assumption | rfl) (by first | assumption | exact Nat.le_of_ble_eq_true rfl) (by omega) (by omega) ?_
          first | (rw [q1]) | skip
          refine go_iastore dX11_drop_58 (by first | assumption | rfl) (by first | assumption | exact Nat.le_of_ble_eq_true rfl) (by omega) (by omega) ?_
          refine go_iconst dX11_drop_59 ?_
          refine go_ist3 dX11_drop_60 (Nat.le_of_ble_eq_true rfl) rfl ?_
          refine inner (by omega) 4 0 _ (by omega) (by omega) ((ho.tr (fr_sa (by decide))).tr (fr_sa (by decide))) q1 ⟨fun a => ?_, fun a => ?_⟩
          · have h0 := hsh.1 a
            have h00 := hsh.1 ((k : Int) + 1)
            by_cases e : a = (k : Int)
            · rw [if_neg (by omega), if_neg (by omega)] at h00
              rw [if_pos (by omega), if_pos (by omega)]
              subst e
              simpa [am_sa] using h00
            · simp only [am_sa, e, and_false, if_false]
              by_cases e2 : (r : Int) ≤ a ∧ a < (k : Int)
              · rw [if_pos e2, if_pos e2] at h0; rw [if_pos (by omega), if_pos (by omega)]; exact h0
              · rw [if_neg e2, if_neg e2] at h0; rw [if_neg (by omega), if_neg (by omega)]; exact h0
          · have := hsh.2 a; simpa [am_sa] using this
    refine am_ev (by decide) [some (.ref 0), some (.int (iZ ((r : Int)))), none, none] rfl (Nat.le_of_ble_eq_true rfl) ?_
    refine go_aload_n dX11_drop_0 rfl ?_
    refine go_iload_n dX11_drop_1 rfl ?_
    refine go_cvP1 (M2 := mX11_isRule) dX11_drop_2 ml_X11_150 mv_X11_isRule sh_0 rfl rfl (Nat.le_of_ble_eq_true rfl) (by decide) (ev_X11_isRule h1 (by unfold inR; omega)) ?_
    rw [if_pos hc]
    refine go_if_ne (tgt := 11) dX11_drop_5 (by decide) (by unfold inR; omega) (fun b5 => ?_) (fun b5 => ?_)
    · skip
      refine go_aload_n dX11_drop_11 rfl ?_
      refine go_dup dX11_drop_12 rfl ?_
      refine go_geti fl_X11_109 dX11_drop_13 sh_0 rfl ?_
      first | (rw [h1.1]) | skip
      refine go_iconst dX11_drop_16 ?_
      refine go_isub dX11_drop_17 ?_
      refine go_puti fl_X11_109 dX11_drop_18 sh_0 rfl am_fit_int ?_
      refine go_iload_n dX11_drop_21 rfl ?_
      refine go_ist2 dX11_drop_22 (Nat.le_of_ble_eq_true rfl) rfl ?_
      refine loop (s.2.1.length + 1) r _ _ rfl (by omega) (by omega) hr (fr_si (by decide)) (by simp [am_si]) ⟨fun a => ?_, fun a => ?_⟩
      · rw [if_neg (by omega), if_neg (by omega)]; exact ⟨rfl, rfl⟩
      · rw [if_neg (by omega), if_neg (by omega)]; exact ⟨rfl, rfl⟩
    · skip
      exact absurd b5 (by decide)
  · skip
    refine am_ev (by decide) [some (.ref 0), some (.int (iZ (r0))), none, none] rfl (Nat.le_of_ble_eq_true rfl) ?_
    refine go_aload_n dX11_drop_0 rfl ?_
    refine go_iload_n dX11_drop_1 rfl ?_
    refine go_cvP1 (M2 := mX11_isRule) dX11_drop_2 ml_X11_150 mv_X11_isRule sh_0 rfl rfl (Nat.le_of_ble_eq_true rfl) (by decide) (ev_X11_isRule h1 hr0) ?_
    rw [if_neg hc]
    refine go_if_ne (tgt := 11) dX11_drop_5 (by decide) (by unfold inR; omega) (fun b5 => ?_) (fun b5 => ?_)
    · skip
      exact absurd rfl b5
    · skip
      refine go_bipush dX11_drop_8 rfl ?_
      refine go_retI dX11_drop_10 rfl ?_
      unfold m_drop
      rw [if_neg hc]; exact ⟨rfl, hrep, am_off.rf⟩
