/-! ===== the reference: layAheads ===== -/
theorem pt_mk {S : List (List Int)} {r q : Nat} (h : q < 5) : pt S (5 * r + q) = (S.getD r []).drop q := by
  unfold pt
  rw [show (5 * r + q) / 5 = r by omega, show (5 * r + q) % 5 = q by omega]
theorem okp_mk {S : List (List Int)} {r q : Nat} (h : q < 5) (hr : r < S.length) (hq : q ≤ (S.getD r []).length) : okp S (5 * r + q) := by
  refine ⟨?_, ?_⟩
  · rw [show (5 * r + q) / 5 = r by omega]; exact hr
  · rw [show (5 * r + q) / 5 = r by omega, show (5 * r + q) % 5 = q by omega]; exact hq
/-- the array isAhead tells these words, each by its least part -/
def ahd (σ : am_St) (S ws : List (List Int)) : Prop := (∀ k : Nat, k < 40 → (σ.2.2 16 (k : Int) = 1 ∧ ∃ w ∈ ws, isL S w k) ∨ (σ.2.2 16 (k : Int) = 0 ∧ ¬ ∃ w ∈ ws, isL S w k)) ∧ ∀ w ∈ ws, ∃ k, k < 40 ∧ isL S w k
theorem ahd.fr {σ σ' : am_St} {S ws : List (List Int)} {fs as : List Nat} (h : ahd σ S ws) (ho : fr fs as σ σ') (h1 : 16 ∉ as) : ahd σ' S ws := ⟨fun k hk => by rw [ho.2 16 h1]; exact h.1 k hk, h.2⟩
theorem ahd.at1 {σ : am_St} {S ws : List (List Int)} (h : ahd σ S ws) {w : List Int} {k : Nat} (hk : k < 40) (hl : isL S w k) : σ.2.2 16 (k : Int) = if w ∈ ws then 1 else 0 := by
  rcases h.1 k hk with ⟨z, w', hw', hl'⟩ | ⟨z, hn⟩
  · rw [if_pos (by rw [← hl.2.1, hl'.2.1]; exact hw')]; exact z
  · rw [if_neg (fun q => hn ⟨w, q, hl⟩)]; exact z
theorem ahd_add {σ : am_St} {S ws : List (List Int)} {w : List Int} {k : Nat} (h : ahd σ S ws) (hk : k < 40) (hl : isL S w k) : ahd (am_sa σ 16 (k : Int) 1) S (rm_add ws w) := by
  refine ⟨fun j hj => ?_, fun x hx => ?_⟩
  · by_cases e : j = k
    · subst e
      rw [am_sa_eq]
      exact Or.inl ⟨rfl, w, rm_add_mem ws w, hl⟩
    · rw [am_sa_ne (by omega)]
      rcases h.1 j hj with ⟨z, w', hw', hl'⟩ | ⟨z, hn⟩
      · exact Or.inl ⟨z, w', (rm_add_iff ws w w').mpr (Or.inl hw'), hl'⟩
      · refine Or.inr ⟨z, ?_⟩
        rintro ⟨w', hw', hl'⟩
        rcases (rm_add_iff ws w w').mp hw' with q | q
        · exact hn ⟨w', q, hl'⟩
        · rw [q] at hl'; exact e (hl'.uniq hl)
  · rcases (rm_add_iff ws w x).mp hx with q | q
    · exact h.2 x q
    · rw [q]; exact ⟨k, hk, hl⟩
theorem rm_add_len (ws : List (List Int)) (w : List Int) : (rm_add ws w).length = ws.length + (if w ∈ ws then 0 else 1) := by
  unfold rm_add
  split
  · rfl
  · rw [List.length_append, List.length_singleton]
/-- the flag isMoreAhead, from m to m2, while ws became ws2 -/
def moreM (m m2 : Int) (ws ws2 : List (List Int)) : Prop := (m2 = 0 ∨ m2 = 1) ∧ (m2 = 0 → m = 0 ∧ ws2 = ws) ∧ (m = 0 → m2 = 1 → ws.length < ws2.length) ∧ ws.length ≤ ws2.length
theorem moreM.rf {m : Int} {ws : List (List Int)} (h : m = 0 ∨ m = 1) : moreM m m ws ws := ⟨h, fun z => ⟨z, rfl⟩, fun z z2 => by omega, Nat.le_refl _⟩
theorem moreM.tr {m m1 m2 : Int} {ws ws1 ws2 : List (List Int)} (h1 : moreM m m1 ws ws1) (h2 : moreM m1 m2 ws1 ws2) : moreM m m2 ws ws2 := by
  obtain ⟨a1, a2, a3, a4⟩ := h1
  obtain ⟨b1, b2, b3, b4⟩ := h2
  refine ⟨b1, fun z => ?_, fun z z2 => ?_, by omega⟩
  · have q := b2 z
    have q2 := a2 q.1
    exact ⟨q2.1, by rw [q.2]; exact q2.2⟩
  · rcases a1 with q | q
    · have := b3 q z2; omega
    · have := a3 z q; omega
theorem ev_X11_comesAhead {σ : am_St} {L R ws : List (List Int)} {m p : Nat} (h : tbM σ L R m) (hp : okp (mt_sg R m) p) (hp4 : p < 40) (ha : ahd σ (mt_sg R m) ws) (hm : σ.1 0 29 = 0 ∨ σ.1 0 29 = 1) : am_Ev SH mX11_comesAhead 4 [.ref 0, .int (iZ (p : Int))] σ (am_rV (fun σ2 => ahd σ2 (mt_sg R m) (rm_add ws (pt (mt_sg R m) p)) ∧ moreM (σ.1 0 29) (σ2.1 0 29) ws (rm_add ws (pt (mt_sg R m) p)) ∧ fr [29] [16] σ σ2)) := by
  have hl := rm_add_len ws (pt (mt_sg R m) p)
  have hmem : pt (mt_sg R m) p ∈ ws → rm_add ws (pt (mt_sg R m) p) = ws := fun z => by unfold rm_add; rw [if_pos z]
  have tail : ∀ (k : Nat) (y : Int), k < 40 → isL (mt_sg R m) (pt (mt_sg R m) p) k → moreM (σ.1 0 29) y ws (rm_add ws (pt (mt_sg R m) p)) → am_Go SH mX11_comesAhead 4 (am_rV (fun σ2 => ahd σ2 (mt_sg R m) (rm_add ws (pt (mt_sg R m) p)) ∧ moreM (σ.1 0 29) (σ2.1 0 29) ws (rm_add ws (pt (mt_sg R m) p)) ∧ fr [29] [16] σ σ2)) 28 [some (.ref 0), some (.int (iZ (p : Int))), some (.int (iZ (k : Int)))] [.int (iZ y), .ref 0] σ := by
    intro k y hk hkl hy
    refine go_puti fl_X11_222 dX11_comesAhead_28 sh_0 rfl (am_fit_bool hy.1) ?_
    refine go_aload_n dX11_comesAhead_31 rfl ?_
    refine go_getr fl_X11_55 dX11_comesAhead_32 sh_0 rfl ?_
    refine go_iload_n dX11_comesAhead_35 rfl ?_
    refine go_iconst dX11_comesAhead_36 ?_
    refine go_bastore dX11_comesAhead_37 (by first | assumption | rfl) (by first | assumption | exact Nat.le_of_ble_eq_true rfl) (by omega) (by omega) (Or.inr rfl) ?_
    refine go_retV dX11_comesAhead_38 rfl ?_
    refine ⟨ahd_add (ha.fr (fs := [29]) (as := []) (fr_si (by decide)) (by decide)) hk hkl, ?_, (fr_si (by decide)).tr (fr_sa (by decide))⟩
    have e : (am_sa (am_si σ 0 29 y) 16 (k : Int) 1).1 0 29 = y := by simp [am_si, am_sa]
    rw [e]; exact hy
  refine am_ev (by decide) [some (.ref 0), some (.int (iZ ((p : Int)))), none] rfl (Nat.le_of_ble_eq_true rfl) ?_
  refine go_aload_n dX11_comesAhead_0 rfl ?_
  refine go_iload_n dX11_comesAhead_1 rfl ?_
  refine go_cvI1 (M2 := mX11_leastOf) dX11_comesAhead_2 ml_X11_219 mv_X11_leastOf sh_0 rfl rfl (Nat.le_of_ble_eq_true rfl) (by decide) (ev_X11_leastOf h hp hp4) (fun x σ1 hq => ?_)
  obtain ⟨⟨k, rfl, hk4, hkl⟩, rfl⟩ := hq
  have e16 := ha.at1 hk4 hkl
  have e01 : σ1.2.2 16 (k : Int) = 0 ∨ σ1.2.2 16 (k : Int) = 1 := by rw [e16]; split <;> simp
  refine go_ist2 dX11_comesAhead_5 (Nat.le_of_ble_eq_true rfl) rfl ?_
  refine go_aload_n dX11_comesAhead_6 rfl ?_
  refine go_aload_n dX11_comesAhead_7 rfl ?_
  refine go_geti fl_X11_222 dX11_comesAhead_8 sh_0 rfl ?_
  refine go_if_ne (tgt := 23) dX11_comesAhead_11 (by decide) (by unfold inR; omega) (fun b11 => ?_) (fun b11 => ?_)
  · skip
    refine go_iconst dX11_comesAhead_23 ?_
    refine go_goto (tgt := 28) dX11_comesAhead_24 (by decide) ?_
    refine tail k _ hk4 hkl ?_
    first
      | (have hin : ¬ pt (mt_sg R m) p ∈ ws := fun z => by rw [if_pos z] at e16; omega
         rw [if_neg hin] at hl
         exact ⟨Or.inr rfl, fun z => absurd z (by decide), fun _ _ => by omega, by omega⟩)
      | (have hin : pt (mt_sg R m) p ∈ ws := by by_cases z : pt (mt_sg R m) p ∈ ws; exact z; rw [if_neg z] at e16; omega
         exact ⟨Or.inl rfl, fun _ => ⟨by omega, hmem hin⟩, fun _ z => absurd z (by decide), by rw [hmem hin]; omega⟩)
      | exact ⟨Or.inr rfl, fun z => absurd z (by decide), fun z _ => absurd z b11, by omega⟩
  · skip
    refine go_aload_n dX11_comesAhead_14 rfl ?_
    refine go_getr fl_X11_55 dX11_comesAhead_15 sh_0 rfl ?_
    refine go_iload_n dX11_comesAhead_18 rfl ?_
    refine go_baload dX11_comesAhead_19 (by first | assumption | rfl) (by first | assumption | exact Nat.le_of_ble_eq_true rfl) (by omega) (by omega) ?_
    refine go_if_ne (tgt := 27) dX11_comesAhead_20 (by decide) (by unfold inR; omega) (fun b20 => ?_) (fun b20 => ?_)
    · skip
      refine go_iconst dX11_comesAhead_27 ?_
      refine tail k _ hk4 hkl ?_
      first
        | (have hin : ¬ pt (mt_sg R m) p ∈ ws := fun z => by rw [if_pos z] at e16; omega
           rw [if_neg hin] at hl
           exact ⟨Or.inr rfl, fun z => absurd z (by decide), fun _ _ => by omega, by omega⟩)
        | (have hin : pt (mt_sg R m) p ∈ ws := by by_cases z : pt (mt_sg R m) p ∈ ws; exact z; rw [if_neg z] at e16; omega
           exact ⟨Or.inl rfl, fun _ => ⟨by omega, hmem hin⟩, fun _ z => absurd z (by decide), by rw [hmem hin]; omega⟩)
        | exact ⟨Or.inr rfl, fun z => absurd z (by decide), fun z _ => absurd z b11, by omega⟩
    · skip
      refine go_iconst dX11_comesAhead_23 ?_
      refine go_goto (tgt := 28) dX11_comesAhead_24 (by decide) ?_
      refine tail k _ hk4 hkl ?_
      first
        | (have hin : ¬ pt (mt_sg R m) p ∈ ws := fun z => by rw [if_pos z] at e16; omega
           rw [if_neg hin] at hl
           exact ⟨Or.inr rfl, fun z => absurd z (by decide), fun _ _ => by omega, by omega⟩)
        | (have hin : pt (mt_sg R m) p ∈ ws := by by_cases z : pt (mt_sg R m) p ∈ ws; exact z; rw [if_neg z] at e16; omega
           exact ⟨Or.inl rfl, fun _ => ⟨by omega, hmem hin⟩, fun _ z => absurd z (by decide), by rw [hmem hin]; omega⟩)
        | exact ⟨Or.inr rfl, fun z => absurd z (by decide), fun z _ => absurd z b11, by omega⟩
/-- what is added goes on from v -/
def stepM (S : List (List Int)) (v : List Int) (ws ws2 : List (List Int)) : Prop := (∀ w ∈ ws, w ∈ ws2) ∧ ∀ w ∈ ws2, w ∈ ws ∨ rm_nx S v w
theorem stepM.rf {S : List (List Int)} {v : List Int} {ws : List (List Int)} : stepM S v ws ws := ⟨fun _ h => h, fun _ h => Or.inl h⟩
theorem stepM.add {S : List (List Int)} {v w : List Int} {ws ws2 : List (List Int)} (h : stepM S v ws ws2) (hw : rm_nx S v w) : stepM S v ws (rm_add ws2 w) := ⟨fun x hx => (rm_add_iff _ _ _).mpr (Or.inl (h.1 x hx)), fun x hx => by
  rcases (rm_add_iff _ _ _).mp hx with z | z
  · exact h.2 x z
  · exact Or.inr (by rw [z]; exact hw)⟩
theorem ev_X11_goOnFrom {σ : am_St} {L R ws : List (List Int)} {m p : Nat} (h : tbM σ L R m) (hp : okp (mt_sg R m) p) (hp4 : p < 40) (ha : ahd σ (mt_sg R m) ws) (hnd : ws.Nodup) (hm : σ.1 0 29 = 0 ∨ σ.1 0 29 = 1) : am_Ev SH mX11_goOnFrom 5 [.ref 0, .int (iZ (p : Int))] σ (am_rV (fun σ2 => ∃ ws2, ahd σ2 (mt_sg R m) ws2 ∧ ws2.Nodup ∧ stepM (mt_sg R m) (pt (mt_sg R m) p) ws ws2 ∧ (∀ w, rm_nx (mt_sg R m) (pt (mt_sg R m) p) w → w ∈ ws2) ∧ moreM (σ.1 0 29) (σ2.1 0 29) ws ws2 ∧ fr [29] [16] σ σ2)) := by
  have h8 := h.S8
  have hpl := (h.pk p).2
  have loop : ∀ (m2 : Nat) (r : Nat) (ws1 : List (List Int)) (σ1 : am_St), R.length - r < m2 → r ≤ R.length → fr [29] [16] σ σ1 → ahd σ1 (mt_sg R m) ws1 → ws1.Nodup → stepM (mt_sg R m) (pt (mt_sg R m) p) ws ws1 → moreM (σ.1 0 29) (σ1.1 0 29) ws ws1 → (∀ r', r' < r → ∀ w, ((pt (mt_sg R m) p <+: (mt_sg R m).getD r' [] ∧ w = ((mt_sg R m).getD r' []).drop (pt (mt_sg R m) p).length) ∨ ((mt_sg R m).getD r' [] <+: pt (mt_sg R m) p ∧ w = (pt (mt_sg R m) p).drop ((mt_sg R m).getD r' []).length)) → w ∈ ws1) → am_Go SH mX11_goOnFrom 5 (am_rV (fun σ2 => ∃ ws2, ahd σ2 (mt_sg R m) ws2 ∧ ws2.Nodup ∧ stepM (mt_sg R m) (pt (mt_sg R m) p) ws ws2 ∧ (∀ w, rm_nx (mt_sg R m) (pt (mt_sg R m) p) w → w ∈ ws2) ∧ moreM (σ.1 0 29) (σ2.1 0 29) ws ws2 ∧ fr [29] [16] σ σ2)) 2 [some (.ref 0), some (.int (iZ (p : Int))), some (.int (iZ (r : Int)))] [] σ1 := by
    intro m2
    induction m2 with
    | zero => intro r ws1 σ1 hm; exact absurd hm (by omega)
    | succ m2 ih =>
      intro r ws1 σ1 hm2 hr ho ha1 hn1 hs1 hm1 hd
      have t1 := h.fr ho (by decide) (by decide)
      by_cases hlt : r < R.length
      · have hmemS : (mt_sg R m).getD r [] ∈ mt_sg R m := by rw [getD_in (by omega)]; exact List.getElem_mem _
        have l4r := (h.sg r).2
        have tail : ∀ (ws3 : List (List Int)) (σ3 : am_St), fr [29] [16] σ σ3 → ahd σ3 (mt_sg R m) ws3 → ws3.Nodup → stepM (mt_sg R m) (pt (mt_sg R m) p) ws ws3 → moreM (σ.1 0 29) (σ3.1 0 29) ws ws3 → (∀ w ∈ ws1, w ∈ ws3) → (pt (mt_sg R m) p <+: (mt_sg R m).getD r [] → ((mt_sg R m).getD r []).drop (pt (mt_sg R m) p).length ∈ ws3) → am_Go SH mX11_goOnFrom 5 (am_rV (fun σ2 => ∃ ws2, ahd σ2 (mt_sg R m) ws2 ∧ ws2.Nodup ∧ stepM (mt_sg R m) (pt (mt_sg R m) p) ws ws2 ∧ (∀ w, rm_nx (mt_sg R m) (pt (mt_sg R m) p) w → w ∈ ws2) ∧ moreM (σ.1 0 29) (σ2.1 0 29) ws ws2 ∧ fr [29] [16] σ σ2)) 32 [some (.ref 0), some (.int (iZ (p : Int))), some (.int (iZ (r : Int)))] [] σ3 := by
          intro ws3 σ3 ho3 ha3 hn3 hs3 hm3 hsub hdone
          have t3 := h.fr ho3 (by decide) (by decide)
          by_cases hsb : (mt_sg R m).getD r [] <+: pt (mt_sg R m) p
          · have hle := hsb.length_le
            have hlp := pt_len (S := mt_sg R m) (p := p)
            have hp2 := hp.2
            have l4p := (h.sg (p / 5)).2
            have d1 : (p + ((mt_sg R m).getD r []).length) / 5 = p / 5 := by omega
            have d2 : (p + ((mt_sg R m).getD r []).length) % 5 = p % 5 + ((mt_sg R m).getD r []).length := by omega
            have hok : okp (mt_sg R m) (p + ((mt_sg R m).getD r []).length) := ⟨by rw [d1]; exact hp.1, by rw [d1, d2]; omega⟩
            have ept : pt (mt_sg R m) (p + ((mt_sg R m).getD r []).length) = (pt (mt_sg R m) p).drop ((mt_sg R m).getD r []).length := by unfold pt; rw [d1, d2, List.drop_drop]
            have cm := ev_X11_comesAhead t3 hok (by have := hok.1; omega) ha3 hm3.1
            rw [ept] at cm
            refine go_aload_n dX11_goOnFrom_32 rfl ?_
            refine go_iload_n dX11_goOnFrom_33 rfl ?_
            refine go_iload_n dX11_goOnFrom_34 rfl ?_
            refine go_cvP2 (M2 := mX11_signBegins) dX11_goOnFrom_35 ml_X11_233 mv_X11_signBegins sh_0 rfl rfl (Nat.le_of_ble_eq_true rfl) (by decide) (ev_X11_signBegins t3 hlt hp) ?_
            rw [if_pos hsb]
            refine go_if_eq (tgt := 52) dX11_goOnFrom_38 (by decide) (by unfold inR; omega) (fun b38 => ?_) (fun b38 => ?_)
            · skip
              exact absurd b38 (by decide)
            · skip
              refine go_aload_n dX11_goOnFrom_41 rfl ?_
              refine go_iload_n dX11_goOnFrom_42 rfl ?_
              refine go_aload_n dX11_goOnFrom_43 rfl ?_
              refine go_iload_n dX11_goOnFrom_44 rfl ?_
              refine go_cvP1 (M2 := mX11_signLength) dX11_goOnFrom_45 ml_X11_137 mv_X11_signLength sh_0 rfl rfl (Nat.le_of_ble_eq_true rfl) (by decide) (ev_X11_signLength t3 hlt) ?_
              refine go_iadd dX11_goOnFrom_48 ?_
              rw [← Int.natCast_add]
              refine go_cvV1 (M2 := mX11_comesAhead) dX11_goOnFrom_49 ml_X11_229 mv_X11_comesAhead sh_0 rfl rfl (Nat.le_of_ble_eq_true rfl) (by decide) (cm) (fun σ4 hq => ?_)
              refine go_inc2 dX11_goOnFrom_52 (Nat.le_of_ble_eq_true rfl) rfl ?_
              refine go_goto (tgt := 2) dX11_goOnFrom_55 (by decide) ?_
              refine ih (r + 1) _ _ (by omega) (by omega) (ho3.tr hq.2.2) hq.1 (rm_add_nd hn3 _) (hs3.add ⟨_, hmemS, Or.inr ⟨hsb, rfl⟩⟩) (hm3.tr hq.2.1) (fun r' hr' w hw => ?_)
              by_cases e : r' = r
              · subst e
                rcases hw with ⟨z1, z2⟩ | ⟨z1, z2⟩
                · rw [z2]; exact (rm_add_iff _ _ _).mpr (Or.inl (hdone z1))
                · rw [z2]; exact rm_add_mem _ _
              · exact (rm_add_iff _ _ _).mpr (Or.inl (hsub w (hd r' (by omega) w hw)))
          · skip
            refine go_aload_n dX11_goOnFrom_32 rfl ?_
            refine go_iload_n dX11_goOnFrom_33 rfl ?_
            refine go_iload_n dX11_goOnFrom_34 rfl ?_
            refine go_cvP2 (M2 := mX11_signBegins) dX11_goOnFrom_35 ml_X11_233 mv_X11_signBegins sh_0 rfl rfl (Nat.le_of_ble_eq_true rfl) (by decide) (ev_X11_signBegins t3 hlt hp) ?_
            rw [if_neg hsb]
            refine go_if_eq (tgt := 52) dX11_goOnFrom_38 (by decide) (by unfold inR; omega) (fun b38 => ?_) (fun b38 => ?_)
            · skip
              refine go_inc2 dX11_goOnFrom_52 (Nat.le_of_ble_eq_true rfl) rfl ?_
              refine go_goto (tgt := 2) dX11_goOnFrom_55 (by decide) ?_
              refine ih (r + 1) _ _ (by omega) (by omega) ho3 ha3 hn3 hs3 hm3 (fun r' hr' w hw => ?_)
              by_cases e : r' = r
              · subst e
                rcases hw with ⟨z1, z2⟩ | ⟨z1, z2⟩
                · rw [z2]; exact hdone z1
                · exact absurd z1 hsb
              · exact hsub w (hd r' (by omega) w hw)
            · skip
              exact absurd rfl b38
        by_cases hpb : pt (mt_sg R m) p <+: (mt_sg R m).getD r []
        · have hle := hpb.length_le
          have d1 : (5 * r + (pt (mt_sg R m) p).length) / 5 = r := by omega
          have d2 : (5 * r + (pt (mt_sg R m) p).length) % 5 = (pt (mt_sg R m) p).length := by omega
          have hok : okp (mt_sg R m) (5 * r + (pt (mt_sg R m) p).length) := ⟨by rw [d1]; omega, by rw [d1, d2]; omega⟩
          have ept : pt (mt_sg R m) (5 * r + (pt (mt_sg R m) p).length) = ((mt_sg R m).getD r []).drop (pt (mt_sg R m) p).length := pt_mk (by omega)
          have cm := ev_X11_comesAhead t1 hok (by have := hok.1; omega) ha1 hm1.1
          rw [ept] at cm
          refine go_iload_n dX11_goOnFrom_2 rfl ?_
          refine go_aload_n dX11_goOnFrom_3 rfl ?_
          refine go_geti fl_X11_109 dX11_goOnFrom_4 sh_0 rfl ?_
          first | (rw [t1.1]) | skip
          refine go_icmp_ge (tgt := 58) dX11_goOnFrom_7 (by decide) (by unfold inR; omega) (by unfold inR; omega) (fun b7 => ?_) (fun b7 => ?_)
          · skip
            omega
          · skip
            refine go_aload_n dX11_goOnFrom_10 rfl ?_
            refine go_iload_n dX11_goOnFrom_11 rfl ?_
            refine go_iload_n dX11_goOnFrom_12 rfl ?_
            refine go_cvP2 (M2 := mX11_partBegins) dX11_goOnFrom_13 ml_X11_226 mv_X11_partBegins sh_0 rfl rfl (Nat.le_of_ble_eq_true rfl) (by decide) (ev_X11_partBegins t1 hp hlt) ?_
            rw [if_pos hpb]
            refine go_if_eq (tgt := 32) dX11_goOnFrom_16 (by decide) (by unfold inR; omega) (fun b16 => ?_) (fun b16 => ?_)
            · skip
              exact absurd b16 (by decide)
            · skip
              refine go_aload_n dX11_goOnFrom_19 rfl ?_
              refine go_iconst dX11_goOnFrom_20 ?_
              refine go_iload_n dX11_goOnFrom_21 rfl ?_
              refine go_imul dX11_goOnFrom_22 ?_
              refine go_aload_n dX11_goOnFrom_23 rfl ?_
              refine go_iload_n dX11_goOnFrom_24 rfl ?_
              refine go_cvP1 (M2 := mX11_lengthOf) dX11_goOnFrom_25 ml_X11_207 mv_X11_lengthOf sh_0 rfl rfl (Nat.le_of_ble_eq_true rfl) (by decide) (ev_X11_lengthOf t1 hp) ?_
              refine go_iadd dX11_goOnFrom_28 ?_
              rw [show 5 * (r : Int) + ((pt (mt_sg R m) p).length : Int) = ((5 * r + (pt (mt_sg R m) p).length : Nat) : Int) by omega]
              refine go_cvV1 (M2 := mX11_comesAhead) dX11_goOnFrom_29 ml_X11_229 mv_X11_comesAhead sh_0 rfl rfl (Nat.le_of_ble_eq_true rfl) (by decide) (cm) (fun σ4 hq => ?_)
              exact tail _ _ (ho.tr hq.2.2) hq.1 (rm_add_nd hn1 _) (hs1.add ⟨_, hmemS, Or.inl ⟨hpb, rfl⟩⟩) (hm1.tr hq.2.1) (fun w hw => (rm_add_iff _ _ _).mpr (Or.inl hw)) (fun _ => rm_add_mem _ _)
        · skip
          refine go_iload_n dX11_goOnFrom_2 rfl ?_
          refine go_aload_n dX11_goOnFrom_3 rfl ?_
          refine go_geti fl_X11_109 dX11_goOnFrom_4 sh_0 rfl ?_
          first | (rw [t1.1]) | skip
          refine go_icmp_ge (tgt := 58) dX11_goOnFrom_7 (by decide) (by unfold inR; omega) (by unfold inR; omega) (fun b7 => ?_) (fun b7 => ?_)
          · skip
            omega
          · skip
            refine go_aload_n dX11_goOnFrom_10 rfl ?_
            refine go_iload_n dX11_goOnFrom_11 rfl ?_
            refine go_iload_n dX11_goOnFrom_12 rfl ?_
            refine go_cvP2 (M2 := mX11_partBegins) dX11_goOnFrom_13 ml_X11_226 mv_X11_partBegins sh_0 rfl rfl (Nat.le_of_ble_eq_true rfl) (by decide) (ev_X11_partBegins t1 hp hlt) ?_
            rw [if_neg hpb]
            refine go_if_eq (tgt := 32) dX11_goOnFrom_16 (by decide) (by unfold inR; omega) (fun b16 => ?_) (fun b16 => ?_)
            · skip
              exact tail _ _ ho ha1 hn1 hs1 hm1 (fun w hw => hw) (fun z => absurd z hpb)
            · skip
              exact absurd rfl b16
      · skip
        refine go_iload_n dX11_goOnFrom_2 rfl ?_
        refine go_aload_n dX11_goOnFrom_3 rfl ?_
        refine go_geti fl_X11_109 dX11_goOnFrom_4 sh_0 rfl ?_
        first | (rw [t1.1]) | skip
        refine go_icmp_ge (tgt := 58) dX11_goOnFrom_7 (by decide) (by unfold inR; omega) (by unfold inR; omega) (fun b7 => ?_) (fun b7 => ?_)
        · skip
          refine go_retV dX11_goOnFrom_58 rfl ?_
          refine ⟨ws1, ha1, hn1, hs1, fun w hw => ?_, hm1, ho⟩
          obtain ⟨s, hs, hw⟩ := hw
          obtain ⟨r', hr', e⟩ := List.mem_iff_getElem.mp hs
          refine hd r' (by omega) w ?_
          rw [getD_in hr', e]; exact hw
        · skip
          omega
  refine am_ev (by decide) [some (.ref 0), some (.int (iZ ((p : Int)))), none] rfl (Nat.le_of_ble_eq_true rfl) ?_
  refine go_iconst dX11_goOnFrom_0 ?_
  refine go_ist2 dX11_goOnFrom_1 (Nat.le_of_ble_eq_true rfl) rfl ?_
  exact loop (R.length + 1) 0 ws σ (by omega) (by omega) fr.rf ha hnd stepM.rf (moreM.rf hm) (fun r' hr' => absurd hr' (by omega))
