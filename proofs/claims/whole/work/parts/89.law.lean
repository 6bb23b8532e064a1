/-! ===== the law: its cases, its loop ===== -/
theorem lw_case0 {L i : Nat} {xs : Nat → Int32} {σ : am_St} {s : mS} (hL : L ≤ 2048) (hi : i + 4 ≤ L) (hC : RepC σ s) (hM : RepM σ s) (nxt : ∀ (σ2 : am_St) (s2 : mS), RepC σ2 s2 → RepM σ2 s2 → lw_cn s s2 → ge_Go lw_K (lw_B L xs σ2) mL room_1 697 [some (.ref 1000000), some (.ref 21), some (.ref 0), some (.int (iZ (i : Int)))] [] 600000 7302250) : ge_Go lw_K (lw_B L xs σ) mL room_1 144 [some (.ref 1000000), some (.ref 21), some (.ref 0), some (.int (iZ (i : Int)))] [] 600000 7302250 := by
  refine ge_aload_n dL_law_144 rfl ?_
  refine ge_aload_n dL_law_145 rfl ?_
  refine ge_iload_n dL_law_146 rfl ?_
  refine ge_iconst dL_law_147 ?_
  refine ge_iadd dL_law_148 ?_
  refine lw_sld dL_law_149 (by omega) (by omega) hL ?_
  refine lw_i1 (M2 := mX10_letter) dL_law_150 ml_L_13 mv_X10_letter sh_21 rfl rfl (Nat.le_of_ble_eq_true rfl) ⟨(Nat.le_of_ble_eq_true rfl), (Nat.le_of_ble_eq_true rfl)⟩ ⟨(Nat.le_of_ble_eq_true rfl), (Nat.le_of_ble_eq_true rfl)⟩ (ev_X10_letter hC (inR_of _)) (fun x1 σ1 hq1 => ?_)
  obtain ⟨rfl, hC1, o1⟩ := hq1
  have hM1 := hM.offX o1
  refine ge_aload_n dL_law_153 rfl ?_
  refine ge_aload_n dL_law_154 rfl ?_
  refine ge_iload_n dL_law_155 rfl ?_
  refine ge_iconst dL_law_156 ?_
  refine ge_iadd dL_law_157 ?_
  refine lw_sld dL_law_158 (by omega) (by omega) hL ?_
  refine lw_i1 (M2 := mX11_letter) dL_law_159 ml_L_17 mv_X11_letter sh_0 rfl rfl (Nat.le_of_ble_eq_true rfl) ⟨(Nat.le_of_ble_eq_true rfl), (Nat.le_of_ble_eq_true rfl)⟩ ⟨(Nat.le_of_ble_eq_true rfl), (Nat.le_of_ble_eq_true rfl)⟩ (ev_X11_letter hM1 (inR_of _)) (fun x2 σ2 hq2 => ?_)
  obtain ⟨rfl, hM2, o2⟩ := hq2
  refine ge_icmp_same (tgt := 697) dL_law_162 (by decide) ?_
  exact nxt _ _ (hC1.offM o2) hM2 (lw_cn_letter s _)
theorem lw_case1 {L i : Nat} {xs : Nat → Int32} {σ : am_St} {s : mS} (hL : L ≤ 2048) (hi : i + 4 ≤ L) (hC : RepC σ s) (hM : RepM σ s) (nxt : ∀ (σ2 : am_St) (s2 : mS), RepC σ2 s2 → RepM σ2 s2 → lw_cn s s2 → ge_Go lw_K (lw_B L xs σ2) mL room_1 697 [some (.ref 1000000), some (.ref 21), some (.ref 0), some (.int (iZ (i : Int)))] [] 600000 7302250) : ge_Go lw_K (lw_B L xs σ) mL room_1 167 [some (.ref 1000000), some (.ref 21), some (.ref 0), some (.int (iZ (i : Int)))] [] 600000 7302250 := by
  refine ge_aload_n dL_law_167 rfl ?_
  refine lw_i0 (M2 := mX10_blank) dL_law_168 ml_L_18 mv_X10_blank sh_21 rfl rfl (Nat.le_of_ble_eq_true rfl) ⟨(Nat.le_of_ble_eq_true rfl), (Nat.le_of_ble_eq_true rfl)⟩ ⟨(Nat.le_of_ble_eq_true rfl), (Nat.le_of_ble_eq_true rfl)⟩ (ev_X10_blank hC) (fun x1 σ1 hq1 => ?_)
  obtain ⟨rfl, hC1, o1⟩ := hq1
  have hM1 := hM.offX o1
  refine ge_aload_n dL_law_171 rfl ?_
  refine lw_i0 (M2 := mX11_blank) dL_law_172 ml_L_22 mv_X11_blank sh_0 rfl rfl (Nat.le_of_ble_eq_true rfl) ⟨(Nat.le_of_ble_eq_true rfl), (Nat.le_of_ble_eq_true rfl)⟩ ⟨(Nat.le_of_ble_eq_true rfl), (Nat.le_of_ble_eq_true rfl)⟩ (ev_X11_blank hM1) (fun x2 σ2 hq2 => ?_)
  obtain ⟨rfl, hM2, o2⟩ := hq2
  refine ge_icmp_same (tgt := 697) dL_law_175 (by decide) ?_
  exact nxt _ _ (hC1.offM o2) hM2 (lw_cn_rf s)
theorem lw_case2 {L i : Nat} {xs : Nat → Int32} {σ : am_St} {s : mS} (hL : L ≤ 2048) (hi : i + 4 ≤ L) (hC : RepC σ s) (hM : RepM σ s) (nxt : ∀ (σ2 : am_St) (s2 : mS), RepC σ2 s2 → RepM σ2 s2 → lw_cn s s2 → ge_Go lw_K (lw_B L xs σ2) mL room_1 697 [some (.ref 1000000), some (.ref 21), some (.ref 0), some (.int (iZ (i : Int)))] [] 600000 7302250) : ge_Go lw_K (lw_B L xs σ) mL room_1 180 [some (.ref 1000000), some (.ref 21), some (.ref 0), some (.int (iZ (i : Int)))] [] 600000 7302250 := by
  refine ge_aload_n dL_law_180 rfl ?_
  refine lw_i0 (M2 := mX10_fault) dL_law_181 ml_L_23 mv_X10_fault sh_21 rfl rfl (Nat.le_of_ble_eq_true rfl) ⟨(Nat.le_of_ble_eq_true rfl), (Nat.le_of_ble_eq_true rfl)⟩ ⟨(Nat.le_of_ble_eq_true rfl), (Nat.le_of_ble_eq_true rfl)⟩ (ev_X10_fault hC) (fun x1 σ1 hq1 => ?_)
  obtain ⟨rfl, hC1, o1⟩ := hq1
  have hM1 := hM.offX o1
  refine ge_aload_n dL_law_184 rfl ?_
  refine lw_i0 (M2 := mX11_fault) dL_law_185 ml_L_26 mv_X11_fault sh_0 rfl rfl (Nat.le_of_ble_eq_true rfl) ⟨(Nat.le_of_ble_eq_true rfl), (Nat.le_of_ble_eq_true rfl)⟩ ⟨(Nat.le_of_ble_eq_true rfl), (Nat.le_of_ble_eq_true rfl)⟩ (ev_X11_fault hM1) (fun x2 σ2 hq2 => ?_)
  obtain ⟨rfl, hM2, o2⟩ := hq2
  refine ge_icmp_same (tgt := 697) dL_law_188 (by decide) ?_
  exact nxt _ _ (hC1.offM o2) hM2 (lw_cn_rf s)
theorem lw_case3 {L i : Nat} {xs : Nat → Int32} {σ : am_St} {s : mS} (hL : L ≤ 2048) (hi : i + 4 ≤ L) (hC : RepC σ s) (hM : RepM σ s) (nxt : ∀ (σ2 : am_St) (s2 : mS), RepC σ2 s2 → RepM σ2 s2 → lw_cn s s2 → ge_Go lw_K (lw_B L xs σ2) mL room_1 697 [some (.ref 1000000), some (.ref 21), some (.ref 0), some (.int (iZ (i : Int)))] [] 600000 7302250) : ge_Go lw_K (lw_B L xs σ) mL room_1 193 [some (.ref 1000000), some (.ref 21), some (.ref 0), some (.int (iZ (i : Int)))] [] 600000 7302250 := by
  refine ge_aload_n dL_law_193 rfl ?_
  refine lw_i0 (M2 := mX10_table) dL_law_194 ml_L_27 mv_X10_table sh_21 rfl rfl (Nat.le_of_ble_eq_true rfl) ⟨(Nat.le_of_ble_eq_true rfl), (Nat.le_of_ble_eq_true rfl)⟩ ⟨(Nat.le_of_ble_eq_true rfl), (Nat.le_of_ble_eq_true rfl)⟩ (ev_X10_table hC) (fun x1 σ1 hq1 => ?_)
  obtain ⟨rfl, hC1, o1⟩ := hq1
  have hM1 := hM.offX o1
  refine ge_aload_n dL_law_197 rfl ?_
  refine lw_i0 (M2 := mX11_table) dL_law_198 ml_L_30 mv_X11_table sh_0 rfl rfl (Nat.le_of_ble_eq_true rfl) ⟨(Nat.le_of_ble_eq_true rfl), (Nat.le_of_ble_eq_true rfl)⟩ ⟨(Nat.le_of_ble_eq_true rfl), (Nat.le_of_ble_eq_true rfl)⟩ (ev_X11_table hM1) (fun x2 σ2 hq2 => ?_)
  obtain ⟨rfl, hM2, o2⟩ := hq2
  refine ge_icmp_same (tgt := 697) dL_law_201 (by decide) ?_
  exact nxt _ _ (hC1.offM o2) hM2 (lw_cn_table s)
theorem lw_case4 {L i : Nat} {xs : Nat → Int32} {σ : am_St} {s : mS} (hL : L ≤ 2048) (hi : i + 4 ≤ L) (hC : RepC σ s) (hM : RepM σ s) (nxt : ∀ (σ2 : am_St) (s2 : mS), RepC σ2 s2 → RepM σ2 s2 → lw_cn s s2 → ge_Go lw_K (lw_B L xs σ2) mL room_1 697 [some (.ref 1000000), some (.ref 21), some (.ref 0), some (.int (iZ (i : Int)))] [] 600000 7302250) : ge_Go lw_K (lw_B L xs σ) mL room_1 206 [some (.ref 1000000), some (.ref 21), some (.ref 0), some (.int (iZ (i : Int)))] [] 600000 7302250 := by
  refine ge_aload_n dL_law_206 rfl ?_
  refine lw_i0 (M2 := mX10_turn) dL_law_207 ml_L_31 mv_X10_turn sh_21 rfl rfl (Nat.le_of_ble_eq_true rfl) ⟨(Nat.le_of_ble_eq_true rfl), (Nat.le_of_ble_eq_true rfl)⟩ ⟨(Nat.le_of_ble_eq_true rfl), (Nat.le_of_ble_eq_true rfl)⟩ (ev_X10_turn hC) (fun x1 σ1 hq1 => ?_)
  obtain ⟨rfl, hC1, o1⟩ := hq1
  have hM1 := hM.offX o1
  refine ge_aload_n dL_law_210 rfl ?_
  refine lw_i0 (M2 := mX11_turn) dL_law_211 ml_L_34 mv_X11_turn sh_0 rfl rfl (Nat.le_of_ble_eq_true rfl) ⟨(Nat.le_of_ble_eq_true rfl), (Nat.le_of_ble_eq_true rfl)⟩ ⟨(Nat.le_of_ble_eq_true rfl), (Nat.le_of_ble_eq_true rfl)⟩ (ev_X11_turn hM1) (fun x2 σ2 hq2 => ?_)
  obtain ⟨rfl, hM2, o2⟩ := hq2
  refine ge_icmp_same (tgt := 697) dL_law_214 (by decide) ?_
  exact nxt _ _ (hC1.offM o2) hM2 (lw_cn_turn s)
theorem lw_case5 {L i : Nat} {xs : Nat → Int32} {σ : am_St} {s : mS} (hL : L ≤ 2048) (hi : i + 4 ≤ L) (hC : RepC σ s) (hM : RepM σ s) (nxt : ∀ (σ2 : am_St) (s2 : mS), RepC σ2 s2 → RepM σ2 s2 → lw_cn s s2 → ge_Go lw_K (lw_B L xs σ2) mL room_1 697 [some (.ref 1000000), some (.ref 21), some (.ref 0), some (.int (iZ (i : Int)))] [] 600000 7302250) : ge_Go lw_K (lw_B L xs σ) mL room_1 219 [some (.ref 1000000), some (.ref 21), some (.ref 0), some (.int (iZ (i : Int)))] [] 600000 7302250 := by
  refine ge_aload_n dL_law_219 rfl ?_
  refine lw_i0 (M2 := mX10_text) dL_law_220 ml_L_35 mv_X10_text sh_21 rfl rfl (Nat.le_of_ble_eq_true rfl) ⟨(Nat.le_of_ble_eq_true rfl), (Nat.le_of_ble_eq_true rfl)⟩ ⟨(Nat.le_of_ble_eq_true rfl), (Nat.le_of_ble_eq_true rfl)⟩ (ev_X10_text hC) (fun x1 σ1 hq1 => ?_)
  obtain ⟨rfl, hC1, o1⟩ := hq1
  have hM1 := hM.offX o1
  refine ge_aload_n dL_law_223 rfl ?_
  refine lw_i0 (M2 := mX11_text) dL_law_224 ml_L_38 mv_X11_text sh_0 rfl rfl (Nat.le_of_ble_eq_true rfl) ⟨(Nat.le_of_ble_eq_true rfl), (Nat.le_of_ble_eq_true rfl)⟩ ⟨(Nat.le_of_ble_eq_true rfl), (Nat.le_of_ble_eq_true rfl)⟩ (ev_X11_text hM1) (fun x2 σ2 hq2 => ?_)
  obtain ⟨rfl, hM2, o2⟩ := hq2
  refine ge_icmp_same (tgt := 697) dL_law_227 (by decide) ?_
  exact nxt _ _ (hC1.offM o2) hM2 (lw_cn_text s)
theorem lw_case6 {L i : Nat} {xs : Nat → Int32} {σ : am_St} {s : mS} (hL : L ≤ 2048) (hi : i + 4 ≤ L) (hC : RepC σ s) (hM : RepM σ s) (nxt : ∀ (σ2 : am_St) (s2 : mS), RepC σ2 s2 → RepM σ2 s2 → lw_cn s s2 → ge_Go lw_K (lw_B L xs σ2) mL room_1 697 [some (.ref 1000000), some (.ref 21), some (.ref 0), some (.int (iZ (i : Int)))] [] 600000 7302250) : ge_Go lw_K (lw_B L xs σ) mL room_1 232 [some (.ref 1000000), some (.ref 21), some (.ref 0), some (.int (iZ (i : Int)))] [] 600000 7302250 := by
  refine ge_aload_n dL_law_232 rfl ?_
  refine ge_aload_n dL_law_233 rfl ?_
  refine ge_iload_n dL_law_234 rfl ?_
  refine ge_iconst dL_law_235 ?_
  refine ge_iadd dL_law_236 ?_
  refine lw_sld dL_law_237 (by omega) (by omega) hL ?_
  refine lw_i1 (M2 := mX10_mark) dL_law_238 ml_L_39 mv_X10_mark sh_21 rfl rfl (Nat.le_of_ble_eq_true rfl) ⟨(Nat.le_of_ble_eq_true rfl), (Nat.le_of_ble_eq_true rfl)⟩ ⟨(Nat.le_of_ble_eq_true rfl), (Nat.le_of_ble_eq_true rfl)⟩ (ev_X10_mark hC (inR_of _)) (fun x1 σ1 hq1 => ?_)
  obtain ⟨rfl, hC1, o1⟩ := hq1
  have hM1 := hM.offX o1
  refine ge_aload_n dL_law_241 rfl ?_
  refine ge_aload_n dL_law_242 rfl ?_
  refine ge_iload_n dL_law_243 rfl ?_
  refine ge_iconst dL_law_244 ?_
  refine ge_iadd dL_law_245 ?_
  refine lw_sld dL_law_246 (by omega) (by omega) hL ?_
  refine lw_i1 (M2 := mX11_mark) dL_law_247 ml_L_42 mv_X11_mark sh_0 rfl rfl (Nat.le_of_ble_eq_true rfl) ⟨(Nat.le_of_ble_eq_true rfl), (Nat.le_of_ble_eq_true rfl)⟩ ⟨(Nat.le_of_ble_eq_true rfl), (Nat.le_of_ble_eq_true rfl)⟩ (ev_X11_mark hM1 (inR_of _)) (fun x2 σ2 hq2 => ?_)
  obtain ⟨rfl, hM2, o2⟩ := hq2
  refine ge_icmp_same (tgt := 697) dL_law_250 (by decide) ?_
  exact nxt _ _ (hC1.offM o2) hM2 (lw_cn_mark s _)
theorem lw_case7 {L i : Nat} {xs : Nat → Int32} {σ : am_St} {s : mS} (hL : L ≤ 2048) (hi : i + 4 ≤ L) (hC : RepC σ s) (hM : RepM σ s) (nxt : ∀ (σ2 : am_St) (s2 : mS), RepC σ2 s2 → RepM σ2 s2 → lw_cn s s2 → ge_Go lw_K (lw_B L xs σ2) mL room_1 697 [some (.ref 1000000), some (.ref 21), some (.ref 0), some (.int (iZ (i : Int)))] [] 600000 7302250) : ge_Go lw_K (lw_B L xs σ) mL room_1 255 [some (.ref 1000000), some (.ref 21), some (.ref 0), some (.int (iZ (i : Int)))] [] 600000 7302250 := by
  refine ge_aload_n dL_law_255 rfl ?_
  refine ge_aload_n dL_law_256 rfl ?_
  refine ge_iload_n dL_law_257 rfl ?_
  refine ge_iconst dL_law_258 ?_
  refine ge_iadd dL_law_259 ?_
  refine lw_sld dL_law_260 (by omega) (by omega) hL ?_
  refine lw_i1 (M2 := mX10_drop) dL_law_261 ml_L_43 mv_X10_drop sh_21 rfl rfl (Nat.le_of_ble_eq_true rfl) ⟨(Nat.le_of_ble_eq_true rfl), (Nat.le_of_ble_eq_true rfl)⟩ ⟨(Nat.le_of_ble_eq_true rfl), (Nat.le_of_ble_eq_true rfl)⟩ (ev_X10_drop hC (inR_of _)) (fun x1 σ1 hq1 => ?_)
  obtain ⟨rfl, hC1, o1⟩ := hq1
  have hM1 := hM.offX o1
  refine ge_aload_n dL_law_264 rfl ?_
  refine ge_aload_n dL_law_265 rfl ?_
  refine ge_iload_n dL_law_266 rfl ?_
  refine ge_iconst dL_law_267 ?_
  refine ge_iadd dL_law_268 ?_
  refine lw_sld dL_law_269 (by omega) (by omega) hL ?_
  refine lw_i1 (M2 := mX11_drop) dL_law_270 ml_L_46 mv_X11_drop sh_0 rfl rfl (Nat.le_of_ble_eq_true rfl) ⟨(Nat.le_of_ble_eq_true rfl), (Nat.le_of_ble_eq_true rfl)⟩ ⟨(Nat.le_of_ble_eq_true rfl), (Nat.le_of_ble_eq_true rfl)⟩ (ev_X11_drop hM1 (inR_of _)) (fun x2 σ2 hq2 => ?_)
  obtain ⟨rfl, hM2, o2⟩ := hq2
  refine ge_icmp_same (tgt := 697) dL_law_273 (by decide) ?_
  exact nxt _ _ (hC1.offM o2) hM2 (lw_cn_drop s _)
theorem lw_case8 {L i : Nat} {xs : Nat → Int32} {σ : am_St} {s : mS} (hL : L ≤ 2048) (hi : i + 4 ≤ L) (hC : RepC σ s) (hM : RepM σ s) (nxt : ∀ (σ2 : am_St) (s2 : mS), RepC σ2 s2 → RepM σ2 s2 → lw_cn s s2 → ge_Go lw_K (lw_B L xs σ2) mL room_1 697 [some (.ref 1000000), some (.ref 21), some (.ref 0), some (.int (iZ (i : Int)))] [] 600000 7302250) : ge_Go lw_K (lw_B L xs σ) mL room_1 278 [some (.ref 1000000), some (.ref 21), some (.ref 0), some (.int (iZ (i : Int)))] [] 600000 7302250 := by
  refine ge_aload_n dL_law_278 rfl ?_
  refine ge_aload_n dL_law_279 rfl ?_
  refine ge_iload_n dL_law_280 rfl ?_
  refine ge_iconst dL_law_281 ?_
  refine ge_iadd dL_law_282 ?_
  refine lw_sld dL_law_283 (by omega) (by omega) hL ?_
  refine ge_aload_n dL_law_284 rfl ?_
  refine ge_iload_n dL_law_285 rfl ?_
  refine ge_iconst dL_law_286 ?_
  refine ge_iadd dL_law_287 ?_
  refine lw_sld dL_law_288 (by omega) (by omega) hL ?_
  refine lw_i2 (M2 := mX10_rule) dL_law_289 ml_L_47 mv_X10_rule sh_21 rfl rfl (Nat.le_of_ble_eq_true rfl) ⟨(Nat.le_of_ble_eq_true rfl), (Nat.le_of_ble_eq_true rfl)⟩ ⟨(Nat.le_of_ble_eq_true rfl), (Nat.le_of_ble_eq_true rfl)⟩ (ev_X10_rule hC (inR_of _) (inR_of _)) (fun x1 σ1 hq1 => ?_)
  obtain ⟨rfl, rfl⟩ := hq1
  have hM1 := hM
  refine ge_aload_n dL_law_292 rfl ?_
  refine ge_aload_n dL_law_293 rfl ?_
  refine ge_iload_n dL_law_294 rfl ?_
  refine ge_iconst dL_law_295 ?_
  refine ge_iadd dL_law_296 ?_
  refine lw_sld dL_law_297 (by omega) (by omega) hL ?_
  refine ge_aload_n dL_law_298 rfl ?_
  refine ge_iload_n dL_law_299 rfl ?_
  refine ge_iconst dL_law_300 ?_
  refine ge_iadd dL_law_301 ?_
  refine lw_sld dL_law_302 (by omega) (by omega) hL ?_
  refine lw_i2 (M2 := mX11_rule) dL_law_303 ml_L_51 mv_X11_rule sh_0 rfl rfl (Nat.le_of_ble_eq_true rfl) ⟨(Nat.le_of_ble_eq_true rfl), (Nat.le_of_ble_eq_true rfl)⟩ ⟨(Nat.le_of_ble_eq_true rfl), (Nat.le_of_ble_eq_true rfl)⟩ (ev_X11_rule hM1 (inR_of _) (inR_of _)) (fun x2 σ2 hq2 => ?_)
  obtain ⟨rfl, rfl⟩ := hq2
  refine ge_icmp_same (tgt := 697) dL_law_306 (by decide) ?_
  exact nxt _ _ hC hM1 (lw_cn_rf s)
theorem lw_case9 {L i : Nat} {xs : Nat → Int32} {σ : am_St} {s : mS} (hL : L ≤ 2048) (hi : i + 4 ≤ L) (hC : RepC σ s) (hM : RepM σ s) (nxt : ∀ (σ2 : am_St) (s2 : mS), RepC σ2 s2 → RepM σ2 s2 → lw_cn s s2 → ge_Go lw_K (lw_B L xs σ2) mL room_1 697 [some (.ref 1000000), some (.ref 21), some (.ref 0), some (.int (iZ (i : Int)))] [] 600000 7302250) : ge_Go lw_K (lw_B L xs σ) mL room_1 311 [some (.ref 1000000), some (.ref 21), some (.ref 0), some (.int (iZ (i : Int)))] [] 600000 7302250 := by
  refine ge_aload_n dL_law_311 rfl ?_
  refine ge_aload_n dL_law_312 rfl ?_
  refine ge_iload_n dL_law_313 rfl ?_
  refine ge_iconst dL_law_314 ?_
  refine ge_iadd dL_law_315 ?_
  refine lw_sld dL_law_316 (by omega) (by omega) hL ?_
  refine ge_aload_n dL_law_317 rfl ?_
  refine ge_iload_n dL_law_318 rfl ?_
  refine ge_iconst dL_law_319 ?_
  refine ge_iadd dL_law_320 ?_
  refine lw_sld dL_law_321 (by omega) (by omega) hL ?_
  refine ge_aload_n dL_law_322 rfl ?_
  refine ge_iload_n dL_law_323 rfl ?_
  refine ge_iconst dL_law_324 ?_
  refine ge_iadd dL_law_325 ?_
  refine lw_sld dL_law_326 (by omega) (by omega) hL ?_
  refine lw_i3 (M2 := mX10_sign) dL_law_327 ml_L_52 mv_X10_sign sh_21 rfl rfl (Nat.le_of_ble_eq_true rfl) ⟨(Nat.le_of_ble_eq_true rfl), (Nat.le_of_ble_eq_true rfl)⟩ ⟨(Nat.le_of_ble_eq_true rfl), (Nat.le_of_ble_eq_true rfl)⟩ (ev_X10_sign hC (inR_of _) (inR_of _) (inR_of _)) (fun x1 σ1 hq1 => ?_)
  obtain ⟨rfl, rfl⟩ := hq1
  have hM1 := hM
  refine ge_aload_n dL_law_330 rfl ?_
  refine ge_aload_n dL_law_331 rfl ?_
  refine ge_iload_n dL_law_332 rfl ?_
  refine ge_iconst dL_law_333 ?_
  refine ge_iadd dL_law_334 ?_
  refine lw_sld dL_law_335 (by omega) (by omega) hL ?_
  refine ge_aload_n dL_law_336 rfl ?_
  refine ge_iload_n dL_law_337 rfl ?_
  refine ge_iconst dL_law_338 ?_
  refine ge_iadd dL_law_339 ?_
  refine lw_sld dL_law_340 (by omega) (by omega) hL ?_
  refine ge_aload_n dL_law_341 rfl ?_
  refine ge_iload_n dL_law_342 rfl ?_
  refine ge_iconst dL_law_343 ?_
  refine ge_iadd dL_law_344 ?_
  refine lw_sld dL_law_345 (by omega) (by omega) hL ?_
  refine lw_i3 (M2 := mX11_sign) dL_law_346 ml_L_56 mv_X11_sign sh_0 rfl rfl (Nat.le_of_ble_eq_true rfl) ⟨(Nat.le_of_ble_eq_true rfl), (Nat.le_of_ble_eq_true rfl)⟩ ⟨(Nat.le_of_ble_eq_true rfl), (Nat.le_of_ble_eq_true rfl)⟩ (ev_X11_sign hM1 (inR_of _) (inR_of _) (inR_of _)) (fun x2 σ2 hq2 => ?_)
  obtain ⟨rfl, rfl⟩ := hq2
  refine ge_icmp_same (tgt := 697) dL_law_349 (by decide) ?_
  exact nxt _ _ hC hM1 (lw_cn_rf s)
theorem lw_case10 {L i : Nat} {xs : Nat → Int32} {σ : am_St} {s : mS} (hL : L ≤ 2048) (hi : i + 4 ≤ L) (hC : RepC σ s) (hM : RepM σ s) (nxt : ∀ (σ2 : am_St) (s2 : mS), RepC σ2 s2 → RepM σ2 s2 → lw_cn s s2 → ge_Go lw_K (lw_B L xs σ2) mL room_1 697 [some (.ref 1000000), some (.ref 21), some (.ref 0), some (.int (iZ (i : Int)))] [] 600000 7302250) : ge_Go lw_K (lw_B L xs σ) mL room_1 354 [some (.ref 1000000), some (.ref 21), some (.ref 0), some (.int (iZ (i : Int)))] [] 600000 7302250 := by
  refine ge_aload_n dL_law_354 rfl ?_
  refine ge_aload_n dL_law_355 rfl ?_
  refine ge_iload_n dL_law_356 rfl ?_
  refine ge_iconst dL_law_357 ?_
  refine ge_iadd dL_law_358 ?_
  refine lw_sld dL_law_359 (by omega) (by omega) hL ?_
  refine lw_i1 (M2 := mX10_ink) dL_law_360 ml_L_57 mv_X10_ink sh_21 rfl rfl (Nat.le_of_ble_eq_true rfl) ⟨(Nat.le_of_ble_eq_true rfl), (Nat.le_of_ble_eq_true rfl)⟩ ⟨(Nat.le_of_ble_eq_true rfl), (Nat.le_of_ble_eq_true rfl)⟩ (ev_X10_ink hC (inR_of _)) (fun x1 σ1 hq1 => ?_)
  obtain ⟨rfl, rfl⟩ := hq1
  have hM1 := hM
  refine ge_aload_n dL_law_363 rfl ?_
  refine ge_aload_n dL_law_364 rfl ?_
  refine ge_iload_n dL_law_365 rfl ?_
  refine ge_iconst dL_law_366 ?_
  refine ge_iadd dL_law_367 ?_
  refine lw_sld dL_law_368 (by omega) (by omega) hL ?_
  refine lw_i1 (M2 := mX11_ink) dL_law_369 ml_L_60 mv_X11_ink sh_0 rfl rfl (Nat.le_of_ble_eq_true rfl) ⟨(Nat.le_of_ble_eq_true rfl), (Nat.le_of_ble_eq_true rfl)⟩ ⟨(Nat.le_of_ble_eq_true rfl), (Nat.le_of_ble_eq_true rfl)⟩ (ev_X11_ink hM1 (inR_of _)) (fun x2 σ2 hq2 => ?_)
  obtain ⟨rfl, rfl⟩ := hq2
  refine ge_icmp_same (tgt := 697) dL_law_372 (by decide) ?_
  exact nxt _ _ hC hM1 (lw_cn_rf s)
theorem lw_case11 {L i : Nat} {xs : Nat → Int32} {σ : am_St} {s : mS} (hL : L ≤ 2048) (hi : i + 4 ≤ L) (hC : RepC σ s) (hM : RepM σ s) (nxt : ∀ (σ2 : am_St) (s2 : mS), RepC σ2 s2 → RepM σ2 s2 → lw_cn s s2 → ge_Go lw_K (lw_B L xs σ2) mL room_1 697 [some (.ref 1000000), some (.ref 21), some (.ref 0), some (.int (iZ (i : Int)))] [] 600000 7302250) : ge_Go lw_K (lw_B L xs σ) mL room_1 377 [some (.ref 1000000), some (.ref 21), some (.ref 0), some (.int (iZ (i : Int)))] [] 600000 7302250 := by
  refine ge_aload_n dL_law_377 rfl ?_
  refine ge_aload_n dL_law_378 rfl ?_
  refine ge_iload_n dL_law_379 rfl ?_
  refine ge_iconst dL_law_380 ?_
  refine ge_iadd dL_law_381 ?_
  refine lw_sld dL_law_382 (by omega) (by omega) hL ?_
  refine lw_i1 (M2 := mX10_back) dL_law_383 ml_L_61 mv_X10_back sh_21 rfl rfl (Nat.le_of_ble_eq_true rfl) ⟨(Nat.le_of_ble_eq_true rfl), (Nat.le_of_ble_eq_true rfl)⟩ ⟨(Nat.le_of_ble_eq_true rfl), (Nat.le_of_ble_eq_true rfl)⟩ (ev_X10_back hC (inR_of _)) (fun x1 σ1 hq1 => ?_)
  obtain ⟨rfl, hC1, o1⟩ := hq1
  have hM1 := hM.offX o1
  refine ge_aload_n dL_law_386 rfl ?_
  refine ge_aload_n dL_law_387 rfl ?_
  refine ge_iload_n dL_law_388 rfl ?_
  refine ge_iconst dL_law_389 ?_
  refine ge_iadd dL_law_390 ?_
  refine lw_sld dL_law_391 (by omega) (by omega) hL ?_
  refine lw_i1 (M2 := mX11_back) dL_law_392 ml_L_64 mv_X11_back sh_0 rfl rfl (Nat.le_of_ble_eq_true rfl) ⟨(Nat.le_of_ble_eq_true rfl), (Nat.le_of_ble_eq_true rfl)⟩ ⟨(Nat.le_of_ble_eq_true rfl), (Nat.le_of_ble_eq_true rfl)⟩ (ev_X11_back hM1 (inR_of _)) (fun x2 σ2 hq2 => ?_)
  obtain ⟨rfl, hM2, o2⟩ := hq2
  refine ge_icmp_same (tgt := 697) dL_law_395 (by decide) ?_
  exact nxt _ _ (hC1.offM o2) hM2 (lw_cn_rf s)
theorem lw_case12 {L i : Nat} {xs : Nat → Int32} {σ : am_St} {s : mS} (hL : L ≤ 2048) (hi : i + 4 ≤ L) (hC : RepC σ s) (hM : RepM σ s) (nxt : ∀ (σ2 : am_St) (s2 : mS), RepC σ2 s2 → RepM σ2 s2 → lw_cn s s2 → ge_Go lw_K (lw_B L xs σ2) mL room_1 697 [some (.ref 1000000), some (.ref 21), some (.ref 0), some (.int (iZ (i : Int)))] [] 600000 7302250) : ge_Go lw_K (lw_B L xs σ) mL room_1 400 [some (.ref 1000000), some (.ref 21), some (.ref 0), some (.int (iZ (i : Int)))] [] 600000 7302250 := by
  refine ge_aload_n dL_law_400 rfl ?_
  refine ge_aload_n dL_law_401 rfl ?_
  refine ge_iload_n dL_law_402 rfl ?_
  refine ge_iconst dL_law_403 ?_
  refine ge_iadd dL_law_404 ?_
  refine lw_sld dL_law_405 (by omega) (by omega) hL ?_
  refine lw_i1 (M2 := mX10_backAt) dL_law_406 ml_L_65 mv_X10_backAt sh_21 rfl rfl (Nat.le_of_ble_eq_true rfl) ⟨(Nat.le_of_ble_eq_true rfl), (Nat.le_of_ble_eq_true rfl)⟩ ⟨(Nat.le_of_ble_eq_true rfl), (Nat.le_of_ble_eq_true rfl)⟩ (ev_X10_backAt hC (inR_of _)) (fun x1 σ1 hq1 => ?_)
  obtain ⟨rfl, hC1, o1⟩ := hq1
  have hM1 := hM.offX o1
  refine ge_aload_n dL_law_409 rfl ?_
  refine ge_aload_n dL_law_410 rfl ?_
  refine ge_iload_n dL_law_411 rfl ?_
  refine ge_iconst dL_law_412 ?_
  refine ge_iadd dL_law_413 ?_
  refine lw_sld dL_law_414 (by omega) (by omega) hL ?_
  refine lw_i1 (M2 := mX11_backAt) dL_law_415 ml_L_68 mv_X11_backAt sh_0 rfl rfl (Nat.le_of_ble_eq_true rfl) ⟨(Nat.le_of_ble_eq_true rfl), (Nat.le_of_ble_eq_true rfl)⟩ ⟨(Nat.le_of_ble_eq_true rfl), (Nat.le_of_ble_eq_true rfl)⟩ (ev_X11_backAt hM1 (inR_of _)) (fun x2 σ2 hq2 => ?_)
  obtain ⟨rfl, hM2, o2⟩ := hq2
  refine ge_icmp_same (tgt := 697) dL_law_418 (by decide) ?_
  exact nxt _ _ (hC1.offM o2) hM2 (lw_cn_rf s)
theorem lw_case13 {L i : Nat} {xs : Nat → Int32} {σ : am_St} {s : mS} (hL : L ≤ 2048) (hi : i + 4 ≤ L) (hC : RepC σ s) (hM : RepM σ s) (nxt : ∀ (σ2 : am_St) (s2 : mS), RepC σ2 s2 → RepM σ2 s2 → lw_cn s s2 → ge_Go lw_K (lw_B L xs σ2) mL room_1 697 [some (.ref 1000000), some (.ref 21), some (.ref 0), some (.int (iZ (i : Int)))] [] 600000 7302250) : ge_Go lw_K (lw_B L xs σ) mL room_1 423 [some (.ref 1000000), some (.ref 21), some (.ref 0), some (.int (iZ (i : Int)))] [] 600000 7302250 := by
  refine ge_aload_n dL_law_423 rfl ?_
  refine lw_i0 (M2 := mX10_ways) dL_law_424 ml_L_69 mv_X10_ways sh_21 rfl rfl (Nat.le_of_ble_eq_true rfl) ⟨(Nat.le_of_ble_eq_true rfl), (Nat.le_of_ble_eq_true rfl)⟩ ⟨(Nat.le_of_ble_eq_true rfl), (Nat.le_of_ble_eq_true rfl)⟩ (ev_X10_ways hC) (fun x1 σ1 hq1 => ?_)
  obtain ⟨rfl, hC1, o1⟩ := hq1
  have hM1 := hM.offX o1
  refine ge_aload_n dL_law_427 rfl ?_
  refine lw_i0 (M2 := mX11_ways) dL_law_428 ml_L_72 mv_X11_ways sh_0 rfl rfl (Nat.le_of_ble_eq_true rfl) ⟨(Nat.le_of_ble_eq_true rfl), (Nat.le_of_ble_eq_true rfl)⟩ ⟨(Nat.le_of_ble_eq_true rfl), (Nat.le_of_ble_eq_true rfl)⟩ (ev_X11_ways hM1) (fun x2 σ2 hq2 => ?_)
  obtain ⟨rfl, hM2, o2⟩ := hq2
  refine ge_icmp_same (tgt := 697) dL_law_431 (by decide) ?_
  exact nxt _ _ (hC1.offM o2) hM2 (lw_cn_rf s)
theorem lw_case14 {L i : Nat} {xs : Nat → Int32} {σ : am_St} {s : mS} (hL : L ≤ 2048) (hi : i + 4 ≤ L) (hC : RepC σ s) (hM : RepM σ s) (nxt : ∀ (σ2 : am_St) (s2 : mS), RepC σ2 s2 → RepM σ2 s2 → lw_cn s s2 → ge_Go lw_K (lw_B L xs σ2) mL room_1 697 [some (.ref 1000000), some (.ref 21), some (.ref 0), some (.int (iZ (i : Int)))] [] 600000 7302250) : ge_Go lw_K (lw_B L xs σ) mL room_1 436 [some (.ref 1000000), some (.ref 21), some (.ref 0), some (.int (iZ (i : Int)))] [] 600000 7302250 := by
  refine ge_aload_n dL_law_436 rfl ?_
  refine ge_aload_n dL_law_437 rfl ?_
  refine ge_iload_n dL_law_438 rfl ?_
  refine ge_iconst dL_law_439 ?_
  refine ge_iadd dL_law_440 ?_
  refine lw_sld dL_law_441 (by omega) (by omega) hL ?_
  refine lw_i1 (M2 := mX10_first) dL_law_442 ml_L_73 mv_X10_first sh_21 rfl rfl (Nat.le_of_ble_eq_true rfl) ⟨(Nat.le_of_ble_eq_true rfl), (Nat.le_of_ble_eq_true rfl)⟩ ⟨(Nat.le_of_ble_eq_true rfl), (Nat.le_of_ble_eq_true rfl)⟩ (ev_X10_first hC (inR_of _)) (fun x1 σ1 hq1 => ?_)
  obtain ⟨rfl, hC1, o1⟩ := hq1
  have hM1 := hM.offX o1
  refine ge_aload_n dL_law_445 rfl ?_
  refine ge_aload_n dL_law_446 rfl ?_
  refine ge_iload_n dL_law_447 rfl ?_
  refine ge_iconst dL_law_448 ?_
  refine ge_iadd dL_law_449 ?_
  refine lw_sld dL_law_450 (by omega) (by omega) hL ?_
  refine lw_i1 (M2 := mX11_first) dL_law_451 ml_L_76 mv_X11_first sh_0 rfl rfl (Nat.le_of_ble_eq_true rfl) ⟨(Nat.le_of_ble_eq_true rfl), (Nat.le_of_ble_eq_true rfl)⟩ ⟨(Nat.le_of_ble_eq_true rfl), (Nat.le_of_ble_eq_true rfl)⟩ (ev_X11_first hM1 (inR_of _)) (fun x2 σ2 hq2 => ?_)
  obtain ⟨rfl, hM2, o2⟩ := hq2
  refine ge_icmp_same (tgt := 697) dL_law_454 (by decide) ?_
  exact nxt _ _ (hC1.offM o2) hM2 (lw_cn_rf s)
theorem lw_case15 {L i : Nat} {xs : Nat → Int32} {σ : am_St} {s : mS} (hL : L ≤ 2048) (hi : i + 4 ≤ L) (hC : RepC σ s) (hM : RepM σ s) (nxt : ∀ (σ2 : am_St) (s2 : mS), RepC σ2 s2 → RepM σ2 s2 → lw_cn s s2 → ge_Go lw_K (lw_B L xs σ2) mL room_1 697 [some (.ref 1000000), some (.ref 21), some (.ref 0), some (.int (iZ (i : Int)))] [] 600000 7302250) : ge_Go lw_K (lw_B L xs σ) mL room_1 459 [some (.ref 1000000), some (.ref 21), some (.ref 0), some (.int (iZ (i : Int)))] [] 600000 7302250 := by
  refine ge_aload_n dL_law_459 rfl ?_
  refine ge_aload_n dL_law_460 rfl ?_
  refine ge_iload_n dL_law_461 rfl ?_
  refine ge_iconst dL_law_462 ?_
  refine ge_iadd dL_law_463 ?_
  refine lw_sld dL_law_464 (by omega) (by omega) hL ?_
  refine lw_i1 (M2 := mX10_clash) dL_law_465 ml_L_77 mv_X10_clash sh_21 rfl rfl (Nat.le_of_ble_eq_true rfl) ⟨(Nat.le_of_ble_eq_true rfl), (Nat.le_of_ble_eq_true rfl)⟩ ⟨(Nat.le_of_ble_eq_true rfl), (Nat.le_of_ble_eq_true rfl)⟩ (ev_X10_clash hC (inR_of _)) (fun x1 σ1 hq1 => ?_)
  obtain ⟨rfl, hC1, o1⟩ := hq1
  have hM1 := hM.offX o1
  refine ge_aload_n dL_law_468 rfl ?_
  refine ge_aload_n dL_law_469 rfl ?_
  refine ge_iload_n dL_law_470 rfl ?_
  refine ge_iconst dL_law_471 ?_
  refine ge_iadd dL_law_472 ?_
  refine lw_sld dL_law_473 (by omega) (by omega) hL ?_
  refine lw_i1 (M2 := mX11_clash) dL_law_474 ml_L_80 mv_X11_clash sh_0 rfl rfl (Nat.le_of_ble_eq_true rfl) ⟨(Nat.le_of_ble_eq_true rfl), (Nat.le_of_ble_eq_true rfl)⟩ ⟨(Nat.le_of_ble_eq_true rfl), (Nat.le_of_ble_eq_true rfl)⟩ (ev_X11_clash hM1 (inR_of _)) (fun x2 σ2 hq2 => ?_)
  obtain ⟨rfl, hM2, o2⟩ := hq2
  refine ge_icmp_same (tgt := 697) dL_law_477 (by decide) ?_
  exact nxt _ _ (hC1.offM o2) hM2 (lw_cn_rf s)
theorem lw_case16 {L i : Nat} {xs : Nat → Int32} {σ : am_St} {s : mS} (hL : L ≤ 2048) (hi : i + 4 ≤ L) (hC : RepC σ s) (hM : RepM σ s) (nxt : ∀ (σ2 : am_St) (s2 : mS), RepC σ2 s2 → RepM σ2 s2 → lw_cn s s2 → ge_Go lw_K (lw_B L xs σ2) mL room_1 697 [some (.ref 1000000), some (.ref 21), some (.ref 0), some (.int (iZ (i : Int)))] [] 600000 7302250) : ge_Go lw_K (lw_B L xs σ) mL room_1 482 [some (.ref 1000000), some (.ref 21), some (.ref 0), some (.int (iZ (i : Int)))] [] 600000 7302250 := by
  refine ge_aload_n dL_law_482 rfl ?_
  refine ge_aload_n dL_law_483 rfl ?_
  refine ge_iload_n dL_law_484 rfl ?_
  refine ge_iconst dL_law_485 ?_
  refine ge_iadd dL_law_486 ?_
  refine lw_sld dL_law_487 (by omega) (by omega) hL ?_
  refine lw_i1 (M2 := mX10_clashAt) dL_law_488 ml_L_81 mv_X10_clashAt sh_21 rfl rfl (Nat.le_of_ble_eq_true rfl) ⟨(Nat.le_of_ble_eq_true rfl), (Nat.le_of_ble_eq_true rfl)⟩ ⟨(Nat.le_of_ble_eq_true rfl), (Nat.le_of_ble_eq_true rfl)⟩ (ev_X10_clashAt hC (inR_of _)) (fun x1 σ1 hq1 => ?_)
  obtain ⟨rfl, hC1, o1⟩ := hq1
  have hM1 := hM.offX o1
  refine ge_aload_n dL_law_491 rfl ?_
  refine ge_aload_n dL_law_492 rfl ?_
  refine ge_iload_n dL_law_493 rfl ?_
  refine ge_iconst dL_law_494 ?_
  refine ge_iadd dL_law_495 ?_
  refine lw_sld dL_law_496 (by omega) (by omega) hL ?_
  refine lw_i1 (M2 := mX11_clashAt) dL_law_497 ml_L_84 mv_X11_clashAt sh_0 rfl rfl (Nat.le_of_ble_eq_true rfl) ⟨(Nat.le_of_ble_eq_true rfl), (Nat.le_of_ble_eq_true rfl)⟩ ⟨(Nat.le_of_ble_eq_true rfl), (Nat.le_of_ble_eq_true rfl)⟩ (ev_X11_clashAt hM1 (inR_of _)) (fun x2 σ2 hq2 => ?_)
  obtain ⟨rfl, hM2, o2⟩ := hq2
  refine ge_icmp_same (tgt := 697) dL_law_500 (by decide) ?_
  exact nxt _ _ (hC1.offM o2) hM2 (lw_cn_rf s)
theorem lw_case17 {L i : Nat} {xs : Nat → Int32} {σ : am_St} {s : mS} (hL : L ≤ 2048) (hi : i + 4 ≤ L) (hC : RepC σ s) (hM : RepM σ s) (nxt : ∀ (σ2 : am_St) (s2 : mS), RepC σ2 s2 → RepM σ2 s2 → lw_cn s s2 → ge_Go lw_K (lw_B L xs σ2) mL room_1 697 [some (.ref 1000000), some (.ref 21), some (.ref 0), some (.int (iZ (i : Int)))] [] 600000 7302250) : ge_Go lw_K (lw_B L xs σ) mL room_1 505 [some (.ref 1000000), some (.ref 21), some (.ref 0), some (.int (iZ (i : Int)))] [] 600000 7302250 := by
  refine ge_aload_n dL_law_505 rfl ?_
  refine ge_aload_n dL_law_506 rfl ?_
  refine ge_iload_n dL_law_507 rfl ?_
  refine ge_iconst dL_law_508 ?_
  refine ge_iadd dL_law_509 ?_
  refine lw_sld dL_law_510 (by omega) (by omega) hL ?_
  refine ge_aload_n dL_law_511 rfl ?_
  refine ge_iload_n dL_law_512 rfl ?_
  refine ge_iconst dL_law_513 ?_
  refine ge_iadd dL_law_514 ?_
  refine lw_sld dL_law_515 (by omega) (by omega) hL ?_
  refine lw_i2 (M2 := mX10_clashing) dL_law_516 ml_L_85 mv_X10_clashing sh_21 rfl rfl (Nat.le_of_ble_eq_true rfl) ⟨(Nat.le_of_ble_eq_true rfl), (Nat.le_of_ble_eq_true rfl)⟩ ⟨(Nat.le_of_ble_eq_true rfl), (Nat.le_of_ble_eq_true rfl)⟩ (ev_X10_clashing hC (inR_of _) (inR_of _)) (fun x1 σ1 hq1 => ?_)
  obtain ⟨rfl, hC1, o1⟩ := hq1
  have hM1 := hM.offX o1
  refine ge_aload_n dL_law_519 rfl ?_
  refine ge_aload_n dL_law_520 rfl ?_
  refine ge_iload_n dL_law_521 rfl ?_
  refine ge_iconst dL_law_522 ?_
  refine ge_iadd dL_law_523 ?_
  refine lw_sld dL_law_524 (by omega) (by omega) hL ?_
  refine ge_aload_n dL_law_525 rfl ?_
  refine ge_iload_n dL_law_526 rfl ?_
  refine ge_iconst dL_law_527 ?_
  refine ge_iadd dL_law_528 ?_
  refine lw_sld dL_law_529 (by omega) (by omega) hL ?_
  refine lw_i2 (M2 := mX11_clashing) dL_law_530 ml_L_88 mv_X11_clashing sh_0 rfl rfl (Nat.le_of_ble_eq_true rfl) ⟨(Nat.le_of_ble_eq_true rfl), (Nat.le_of_ble_eq_true rfl)⟩ ⟨(Nat.le_of_ble_eq_true rfl), (Nat.le_of_ble_eq_true rfl)⟩ (ev_X11_clashing hM1 (inR_of _) (inR_of _)) (fun x2 σ2 hq2 => ?_)
  obtain ⟨rfl, hM2, o2⟩ := hq2
  refine ge_icmp_same (tgt := 697) dL_law_533 (by decide) ?_
  exact nxt _ _ (hC1.offM o2) hM2 (lw_cn_rf s)
theorem lw_case18 {L i : Nat} {xs : Nat → Int32} {σ : am_St} {s : mS} (hL : L ≤ 2048) (hi : i + 4 ≤ L) (hC : RepC σ s) (hM : RepM σ s) (nxt : ∀ (σ2 : am_St) (s2 : mS), RepC σ2 s2 → RepM σ2 s2 → lw_cn s s2 → ge_Go lw_K (lw_B L xs σ2) mL room_1 697 [some (.ref 1000000), some (.ref 21), some (.ref 0), some (.int (iZ (i : Int)))] [] 600000 7302250) : ge_Go lw_K (lw_B L xs σ) mL room_1 538 [some (.ref 1000000), some (.ref 21), some (.ref 0), some (.int (iZ (i : Int)))] [] 600000 7302250 := by
  refine ge_aload_n dL_law_538 rfl ?_
  refine ge_aload_n dL_law_539 rfl ?_
  refine ge_iload_n dL_law_540 rfl ?_
  refine ge_iconst dL_law_541 ?_
  refine ge_iadd dL_law_542 ?_
  refine lw_sld dL_law_543 (by omega) (by omega) hL ?_
  refine lw_i1 (M2 := mX10_ahead) dL_law_544 ml_L_89 mv_X10_ahead sh_21 rfl rfl (Nat.le_of_ble_eq_true rfl) ⟨(Nat.le_of_ble_eq_true rfl), (Nat.le_of_ble_eq_true rfl)⟩ ⟨(Nat.le_of_ble_eq_true rfl), (Nat.le_of_ble_eq_true rfl)⟩ (ev_X10_ahead hC (inR_of _)) (fun x1 σ1 hq1 => ?_)
  obtain ⟨rfl, hC1, o1⟩ := hq1
  have hM1 := hM.offX o1
  refine ge_aload_n dL_law_547 rfl ?_
  refine ge_aload_n dL_law_548 rfl ?_
  refine ge_iload_n dL_law_549 rfl ?_
  refine ge_iconst dL_law_550 ?_
  refine ge_iadd dL_law_551 ?_
  refine lw_sld dL_law_552 (by omega) (by omega) hL ?_
  refine lw_i1 (M2 := mX11_ahead) dL_law_553 ml_L_92 mv_X11_ahead sh_0 rfl rfl (Nat.le_of_ble_eq_true rfl) ⟨(Nat.le_of_ble_eq_true rfl), (Nat.le_of_ble_eq_true rfl)⟩ ⟨(Nat.le_of_ble_eq_true rfl), (Nat.le_of_ble_eq_true rfl)⟩ (ev_X11_ahead hM1 (inR_of _)) (fun x2 σ2 hq2 => ?_)
  obtain ⟨rfl, hM2, o2⟩ := hq2
  refine ge_icmp_same (tgt := 697) dL_law_556 (by decide) ?_
  exact nxt _ _ (hC1.offM o2) hM2 (lw_cn_rf s)
theorem lw_case19 {L i : Nat} {xs : Nat → Int32} {σ : am_St} {s : mS} (hL : L ≤ 2048) (hi : i + 4 ≤ L) (hC : RepC σ s) (hM : RepM σ s) (nxt : ∀ (σ2 : am_St) (s2 : mS), RepC σ2 s2 → RepM σ2 s2 → lw_cn s s2 → ge_Go lw_K (lw_B L xs σ2) mL room_1 697 [some (.ref 1000000), some (.ref 21), some (.ref 0), some (.int (iZ (i : Int)))] [] 600000 7302250) : ge_Go lw_K (lw_B L xs σ) mL room_1 561 [some (.ref 1000000), some (.ref 21), some (.ref 0), some (.int (iZ (i : Int)))] [] 600000 7302250 := by
  refine ge_aload_n dL_law_561 rfl ?_
  refine ge_aload_n dL_law_562 rfl ?_
  refine ge_iload_n dL_law_563 rfl ?_
  refine ge_iconst dL_law_564 ?_
  refine ge_iadd dL_law_565 ?_
  refine lw_sld dL_law_566 (by omega) (by omega) hL ?_
  refine ge_aload_n dL_law_567 rfl ?_
  refine ge_iload_n dL_law_568 rfl ?_
  refine ge_iconst dL_law_569 ?_
  refine ge_iadd dL_law_570 ?_
  refine lw_sld dL_law_571 (by omega) (by omega) hL ?_
  refine lw_i2 (M2 := mX10_aheadAt) dL_law_572 ml_L_93 mv_X10_aheadAt sh_21 rfl rfl (Nat.le_of_ble_eq_true rfl) ⟨(Nat.le_of_ble_eq_true rfl), (Nat.le_of_ble_eq_true rfl)⟩ ⟨(Nat.le_of_ble_eq_true rfl), (Nat.le_of_ble_eq_true rfl)⟩ (ev_X10_aheadAt hC (inR_of _) (inR_of _)) (fun x1 σ1 hq1 => ?_)
  obtain ⟨rfl, hC1, o1⟩ := hq1
  have hM1 := hM.offX o1
  refine ge_aload_n dL_law_575 rfl ?_
  refine ge_aload_n dL_law_576 rfl ?_
  refine ge_iload_n dL_law_577 rfl ?_
  refine ge_iconst dL_law_578 ?_
  refine ge_iadd dL_law_579 ?_
  refine lw_sld dL_law_580 (by omega) (by omega) hL ?_
  refine ge_aload_n dL_law_581 rfl ?_
  refine ge_iload_n dL_law_582 rfl ?_
  refine ge_iconst dL_law_583 ?_
  refine ge_iadd dL_law_584 ?_
  refine lw_sld dL_law_585 (by omega) (by omega) hL ?_
  refine lw_i2 (M2 := mX11_aheadAt) dL_law_586 ml_L_96 mv_X11_aheadAt sh_0 rfl rfl (Nat.le_of_ble_eq_true rfl) ⟨(Nat.le_of_ble_eq_true rfl), (Nat.le_of_ble_eq_true rfl)⟩ ⟨(Nat.le_of_ble_eq_true rfl), (Nat.le_of_ble_eq_true rfl)⟩ (ev_X11_aheadAt hM1 (inR_of _) (inR_of _)) (fun x2 σ2 hq2 => ?_)
  obtain ⟨rfl, hM2, o2⟩ := hq2
  refine ge_icmp_same (tgt := 697) dL_law_589 (by decide) ?_
  exact nxt _ _ (hC1.offM o2) hM2 (lw_cn_rf s)
theorem lw_case20 {L i : Nat} {xs : Nat → Int32} {σ : am_St} {s : mS} (hL : L ≤ 2048) (hi : i + 4 ≤ L) (hC : RepC σ s) (hM : RepM σ s) (nxt : ∀ (σ2 : am_St) (s2 : mS), RepC σ2 s2 → RepM σ2 s2 → lw_cn s s2 → ge_Go lw_K (lw_B L xs σ2) mL room_1 697 [some (.ref 1000000), some (.ref 21), some (.ref 0), some (.int (iZ (i : Int)))] [] 600000 7302250) : ge_Go lw_K (lw_B L xs σ) mL room_1 594 [some (.ref 1000000), some (.ref 21), some (.ref 0), some (.int (iZ (i : Int)))] [] 600000 7302250 := by
  refine ge_aload_n dL_law_594 rfl ?_
  refine ge_aload_n dL_law_595 rfl ?_
  refine ge_iload_n dL_law_596 rfl ?_
  refine ge_iconst dL_law_597 ?_
  refine ge_iadd dL_law_598 ?_
  refine lw_sld dL_law_599 (by omega) (by omega) hL ?_
  refine lw_i1 (M2 := mX10_parting) dL_law_600 ml_L_97 mv_X10_parting sh_21 rfl rfl (Nat.le_of_ble_eq_true rfl) ⟨(Nat.le_of_ble_eq_true rfl), (Nat.le_of_ble_eq_true rfl)⟩ ⟨(Nat.le_of_ble_eq_true rfl), (Nat.le_of_ble_eq_true rfl)⟩ (ev_X10_parting hC (inR_of _)) (fun x1 σ1 hq1 => ?_)
  obtain ⟨rfl, hC1, o1⟩ := hq1
  have hM1 := hM.offX o1
  refine ge_aload_n dL_law_603 rfl ?_
  refine ge_aload_n dL_law_604 rfl ?_
  refine ge_iload_n dL_law_605 rfl ?_
  refine ge_iconst dL_law_606 ?_
  refine ge_iadd dL_law_607 ?_
  refine lw_sld dL_law_608 (by omega) (by omega) hL ?_
  refine lw_i1 (M2 := mX11_parting) dL_law_609 ml_L_100 mv_X11_parting sh_0 rfl rfl (Nat.le_of_ble_eq_true rfl) ⟨(Nat.le_of_ble_eq_true rfl), (Nat.le_of_ble_eq_true rfl)⟩ ⟨(Nat.le_of_ble_eq_true rfl), (Nat.le_of_ble_eq_true rfl)⟩ (ev_X11_parting hM1 (inR_of _)) (fun x2 σ2 hq2 => ?_)
  obtain ⟨rfl, hM2, o2⟩ := hq2
  refine ge_icmp_same (tgt := 697) dL_law_612 (by decide) ?_
  exact nxt _ _ (hC1.offM o2) hM2 (lw_cn_rf s)
theorem lw_case21 {L i : Nat} {xs : Nat → Int32} {σ : am_St} {s : mS} (hL : L ≤ 2048) (hi : i + 4 ≤ L) (hC : RepC σ s) (hM : RepM σ s) (nxt : ∀ (σ2 : am_St) (s2 : mS), RepC σ2 s2 → RepM σ2 s2 → lw_cn s s2 → ge_Go lw_K (lw_B L xs σ2) mL room_1 697 [some (.ref 1000000), some (.ref 21), some (.ref 0), some (.int (iZ (i : Int)))] [] 600000 7302250) : ge_Go lw_K (lw_B L xs σ) mL room_1 617 [some (.ref 1000000), some (.ref 21), some (.ref 0), some (.int (iZ (i : Int)))] [] 600000 7302250 := by
  refine ge_aload_n dL_law_617 rfl ?_
  refine ge_aload_n dL_law_618 rfl ?_
  refine ge_iload_n dL_law_619 rfl ?_
  refine ge_iconst dL_law_620 ?_
  refine ge_iadd dL_law_621 ?_
  refine lw_sld dL_law_622 (by omega) (by omega) hL ?_
  refine ge_aload_n dL_law_623 rfl ?_
  refine ge_iload_n dL_law_624 rfl ?_
  refine ge_iconst dL_law_625 ?_
  refine ge_iadd dL_law_626 ?_
  refine lw_sld dL_law_627 (by omega) (by omega) hL ?_
  refine ge_aload_n dL_law_628 rfl ?_
  refine ge_iload_n dL_law_629 rfl ?_
  refine ge_iconst dL_law_630 ?_
  refine ge_iadd dL_law_631 ?_
  refine lw_sld dL_law_632 (by omega) (by omega) hL ?_
  refine lw_i3 (M2 := mX10_trial) dL_law_633 ml_L_101 mv_X10_trial sh_21 rfl rfl (Nat.le_of_ble_eq_true rfl) ⟨(Nat.le_of_ble_eq_true rfl), (Nat.le_of_ble_eq_true rfl)⟩ ⟨(Nat.le_of_ble_eq_true rfl), (Nat.le_of_ble_eq_true rfl)⟩ (ev_X10_trial hC (inR_of _) (inR_of _) (inR_of _)) (fun x1 σ1 hq1 => ?_)
  obtain ⟨rfl, hC1, o1⟩ := hq1
  have hM1 := hM.offX o1
  refine ge_aload_n dL_law_636 rfl ?_
  refine ge_aload_n dL_law_637 rfl ?_
  refine ge_iload_n dL_law_638 rfl ?_
  refine ge_iconst dL_law_639 ?_
  refine ge_iadd dL_law_640 ?_
  refine lw_sld dL_law_641 (by omega) (by omega) hL ?_
  refine ge_aload_n dL_law_642 rfl ?_
  refine ge_iload_n dL_law_643 rfl ?_
  refine ge_iconst dL_law_644 ?_
  refine ge_iadd dL_law_645 ?_
  refine lw_sld dL_law_646 (by omega) (by omega) hL ?_
  refine ge_aload_n dL_law_647 rfl ?_
  refine ge_iload_n dL_law_648 rfl ?_
  refine ge_iconst dL_law_649 ?_
  refine ge_iadd dL_law_650 ?_
  refine lw_sld dL_law_651 (by omega) (by omega) hL ?_
  refine lw_i3 (M2 := mX11_trial) dL_law_652 ml_L_104 mv_X11_trial sh_0 rfl rfl (Nat.le_of_ble_eq_true rfl) ⟨(Nat.le_of_ble_eq_true rfl), (Nat.le_of_ble_eq_true rfl)⟩ ⟨(Nat.le_of_ble_eq_true rfl), (Nat.le_of_ble_eq_true rfl)⟩ (ev_X11_trial hM1 (inR_of _) (inR_of _) (inR_of _)) (fun x2 σ2 hq2 => ?_)
  obtain ⟨rfl, hM2, o2⟩ := hq2
  refine ge_icmp_same (tgt := 697) dL_law_655 (by decide) ?_
  exact nxt _ _ (hC1.offM o2) hM2 (lw_cn_rf s)
theorem lw_case22 {L i : Nat} {xs : Nat → Int32} {σ : am_St} {s : mS} (hL : L ≤ 2048) (hi : i + 4 ≤ L) (hC : RepC σ s) (hM : RepM σ s) (nxt : ∀ (σ2 : am_St) (s2 : mS), RepC σ2 s2 → RepM σ2 s2 → lw_cn s s2 → ge_Go lw_K (lw_B L xs σ2) mL room_1 697 [some (.ref 1000000), some (.ref 21), some (.ref 0), some (.int (iZ (i : Int)))] [] 600000 7302250) : ge_Go lw_K (lw_B L xs σ) mL room_1 660 [some (.ref 1000000), some (.ref 21), some (.ref 0), some (.int (iZ (i : Int)))] [] 600000 7302250 := by
  refine ge_aload_n dL_law_660 rfl ?_
  refine ge_aload_n dL_law_661 rfl ?_
  refine ge_iload_n dL_law_662 rfl ?_
  refine ge_iconst dL_law_663 ?_
  refine ge_iadd dL_law_664 ?_
  refine lw_sld dL_law_665 (by omega) (by omega) hL ?_
  refine lw_i1 (M2 := mX10_count) dL_law_666 ml_L_105 mv_X10_count sh_21 rfl rfl (Nat.le_of_ble_eq_true rfl) ⟨(Nat.le_of_ble_eq_true rfl), (Nat.le_of_ble_eq_true rfl)⟩ ⟨(Nat.le_of_ble_eq_true rfl), (Nat.le_of_ble_eq_true rfl)⟩ (ev_X10_count hC (inR_of _)) (fun x1 σ1 hq1 => ?_)
  obtain ⟨rfl, rfl⟩ := hq1
  have hM1 := hM
  refine ge_aload_n dL_law_669 rfl ?_
  refine ge_aload_n dL_law_670 rfl ?_
  refine ge_iload_n dL_law_671 rfl ?_
  refine ge_iconst dL_law_672 ?_
  refine ge_iadd dL_law_673 ?_
  refine lw_sld dL_law_674 (by omega) (by omega) hL ?_
  refine lw_i1 (M2 := mX11_count) dL_law_675 ml_L_108 mv_X11_count sh_0 rfl rfl (Nat.le_of_ble_eq_true rfl) ⟨(Nat.le_of_ble_eq_true rfl), (Nat.le_of_ble_eq_true rfl)⟩ ⟨(Nat.le_of_ble_eq_true rfl), (Nat.le_of_ble_eq_true rfl)⟩ (ev_X11_count hM1 (inR_of _)) (fun x2 σ2 hq2 => ?_)
  obtain ⟨rfl, rfl⟩ := hq2
  refine ge_icmp_same (tgt := 697) dL_law_678 (by decide) ?_
  exact nxt _ _ hC hM1 (lw_cn_rf s)
theorem lw_case23 {L i : Nat} {xs : Nat → Int32} {σ : am_St} {s : mS} (hL : L ≤ 2048) (hi : i + 4 ≤ L) (hC : RepC σ s) (hM : RepM σ s) (c1 : inR s.2.2.2.2.2.1) (c2 : inR s.2.2.2.2.2.2.1) (c3 : inR s.2.2.2.2.2.2.2) (nxt : ∀ (σ2 : am_St) (s2 : mS), RepC σ2 s2 → RepM σ2 s2 → lw_cn s s2 → ge_Go lw_K (lw_B L xs σ2) mL room_1 697 [some (.ref 1000000), some (.ref 21), some (.ref 0), some (.int (iZ (i : Int)))] [] 600000 7302250) : ge_Go lw_K (lw_B L xs σ) mL room_1 683 [some (.ref 1000000), some (.ref 21), some (.ref 0), some (.int (iZ (i : Int)))] [] 600000 7302250 := by
  refine ge_aload_n dL_law_683 rfl ?_
  refine lw_l0 (M2 := mX10_digest) dL_law_684 ml_L_109 mv_X10_digest sh_21 rfl rfl (Nat.le_of_ble_eq_true rfl) ⟨(Nat.le_of_ble_eq_true rfl), (Nat.le_of_ble_eq_true rfl)⟩ ⟨(Nat.le_of_ble_eq_true rfl), (Nat.le_of_ble_eq_true rfl)⟩ (ev_X10_digest hC c1 c2 c3) (fun x1 σ1 hq1 => ?_)
  obtain ⟨rfl, hC1, o1⟩ := hq1
  have hM1 := hM.offX o1
  refine ge_aload_n dL_law_687 rfl ?_
  refine lw_l0 (M2 := mX11_digest) dL_law_688 ml_L_113 mv_X11_digest sh_0 rfl rfl (Nat.le_of_ble_eq_true rfl) ⟨(Nat.le_of_ble_eq_true rfl), (Nat.le_of_ble_eq_true rfl)⟩ ⟨(Nat.le_of_ble_eq_true rfl), (Nat.le_of_ble_eq_true rfl)⟩ (ev_X11_digest hM1 c1 c2 c3) (fun x2 σ2 hq2 => ?_)
  obtain ⟨rfl, hM2, o2⟩ := hq2
  refine ge_lcmp_same dL_law_691 ?_
  refine ge_if_0 (tgt := 697) dL_law_692 (by decide) ?_
  exact nxt _ _ (hC1.offM o2) hM2 (lw_cn_rf s)
/-- the counters are within what was called -/
def lw_cb (s : mS) (n : Int) : Prop := (0 ≤ s.2.2.2.2.2.1 ∧ s.2.2.2.2.2.1 ≤ n) ∧ (0 ≤ s.2.2.2.2.2.2.1 ∧ s.2.2.2.2.2.2.1 ≤ n) ∧ (0 ≤ s.2.2.2.2.2.2.2 ∧ s.2.2.2.2.2.2.2 ≤ n)
theorem lw_cb_nx {s s2 : mS} {n m : Int} (h : lw_cb s n) (hc : lw_cn s s2) (hm : n + 1 ≤ m) : lw_cb s2 m := by
  unfold lw_cb lw_cn at *
  omega
theorem lw_loop {L : Nat} {xs : Nat → Int32} (hL : L ≤ 2048) : ∀ (m i : Nat) (σ : am_St) (s : mS), L - i < m → i ≤ L + 4 → RepC σ s → RepM σ s → lw_cb s (i : Int) → ge_Go lw_K (lw_B L xs σ) mL room_1 18 [some (.ref 1000000), some (.ref 21), some (.ref 0), some (.int (iZ (i : Int)))] [] 600000 7302250 := by
  intro m
  induction m with
  | zero => intro i σ s hm; exact absurd hm (by omega)
  | succ m ih =>
    intro i σ s hm hi hC hM hcb
    refine ge_iload_n dL_law_18 rfl ?_
    refine ge_aload_n dL_law_19 rfl ?_
    refine lw_slen dL_law_20 ?_
    refine ge_iconst dL_law_21 ?_
    refine ge_isub dL_law_22 ?_
    refine ge_icmp_gt (tgt := 703) dL_law_23 (by decide) (by unfold inR; omega) (by unfold inR; omega) (fun b => ?_) (fun b => ?_)
    · refine ge_iconst dL_law_703 ?_
      exact lw_end dL_law_704
    · have hi4 : i + 4 ≤ L := by omega
      have nxt : ∀ (σ2 : am_St) (s2 : mS), RepC σ2 s2 → RepM σ2 s2 → lw_cn s s2 → ge_Go lw_K (lw_B L xs σ2) mL room_1 697 [some (.ref 1000000), some (.ref 21), some (.ref 0), some (.int (iZ (i : Int)))] [] 600000 7302250 := by
        intro σ2 s2 hC2 hM2 hcn
        refine ge_iinc dL_law_697 rfl (Nat.le_of_ble_eq_true rfl) (fun j o h1 h2 => by
          obtain rfl : j = 2 := by omega
          cases h2; rfl) ?_
        refine ge_goto (tgt := 18) dL_law_700 (by decide) ?_
        exact ih (i + 4) σ2 s2 (by omega) (by omega) hC2 hM2 (lw_cb_nx hcb hcn (by omega))
      refine ge_aload_n dL_law_26 rfl ?_
      refine ge_iload_n dL_law_27 rfl ?_
      refine lw_sld dL_law_28 (by omega) (by omega) hL ?_
      refine ge_bipush dL_law_29 rfl ?_
      refine ge_iand dL_law_31 ?_
      have hv := lw_and (xs ((i : Int)).toNat).toInt
      generalize am_and (xs ((i : Int)).toNat).toInt 31 = v at hv ⊢
      have c1 : inR s.2.2.2.2.2.1 := by unfold lw_cb at hcb; unfold inR; omega
      have c2 : inR s.2.2.2.2.2.2.1 := by unfold lw_cb at hcb; unfold inR; omega
      have c3 : inR s.2.2.2.2.2.2.2 := by unfold lw_cb at hcb; unfold inR; omega
      by_cases hout : 23 < v
      · exact ge_tableOut (tgt := 697) dL_law_32 (by unfold inR; omega) (Or.inr hout) (by decide) (nxt σ s hC hM (lw_cn_rf s))
      · have hvs : v = 0 ∨ v = 1 ∨ v = 2 ∨ v = 3 ∨ v = 4 ∨ v = 5 ∨ v = 6 ∨ v = 7 ∨ v = 8 ∨ v = 9 ∨ v = 10 ∨ v = 11 ∨ v = 12 ∨ v = 13 ∨ v = 14 ∨ v = 15 ∨ v = 16 ∨ v = 17 ∨ v = 18 ∨ v = 19 ∨ v = 20 ∨ v = 21 ∨ v = 22 ∨ v = 23 := by omega
        rcases hvs with rfl | rfl | rfl | rfl | rfl | rfl | rfl | rfl | rfl | rfl | rfl | rfl | rfl | rfl | rfl | rfl | rfl | rfl | rfl | rfl | rfl | rfl | rfl | rfl
        · exact ge_tableIn (off := 112) (tgt := 144) dL_law_32 (by unfold inR; omega) (by decide) (by decide) rfl (by decide) (lw_case0 hL hi4 hC hM nxt)
        · exact ge_tableIn (off := 135) (tgt := 167) dL_law_32 (by unfold inR; omega) (by decide) (by decide) rfl (by decide) (lw_case1 hL hi4 hC hM nxt)
        · exact ge_tableIn (off := 148) (tgt := 180) dL_law_32 (by unfold inR; omega) (by decide) (by decide) rfl (by decide) (lw_case2 hL hi4 hC hM nxt)
        · exact ge_tableIn (off := 161) (tgt := 193) dL_law_32 (by unfold inR; omega) (by decide) (by decide) rfl (by decide) (lw_case3 hL hi4 hC hM nxt)
        · exact ge_tableIn (off := 174) (tgt := 206) dL_law_32 (by unfold inR; omega) (by decide) (by decide) rfl (by decide) (lw_case4 hL hi4 hC hM nxt)
        · exact ge_tableIn (off := 187) (tgt := 219) dL_law_32 (by unfold inR; omega) (by decide) (by decide) rfl (by decide) (lw_case5 hL hi4 hC hM nxt)
        · exact ge_tableIn (off := 200) (tgt := 232) dL_law_32 (by unfold inR; omega) (by decide) (by decide) rfl (by decide) (lw_case6 hL hi4 hC hM nxt)
        · exact ge_tableIn (off := 223) (tgt := 255) dL_law_32 (by unfold inR; omega) (by decide) (by decide) rfl (by decide) (lw_case7 hL hi4 hC hM nxt)
        · exact ge_tableIn (off := 246) (tgt := 278) dL_law_32 (by unfold inR; omega) (by decide) (by decide) rfl (by decide) (lw_case8 hL hi4 hC hM nxt)
        · exact ge_tableIn (off := 279) (tgt := 311) dL_law_32 (by unfold inR; omega) (by decide) (by decide) rfl (by decide) (lw_case9 hL hi4 hC hM nxt)
        · exact ge_tableIn (off := 322) (tgt := 354) dL_law_32 (by unfold inR; omega) (by decide) (by decide) rfl (by decide) (lw_case10 hL hi4 hC hM nxt)
        · exact ge_tableIn (off := 345) (tgt := 377) dL_law_32 (by unfold inR; omega) (by decide) (by decide) rfl (by decide) (lw_case11 hL hi4 hC hM nxt)
        · exact ge_tableIn (off := 368) (tgt := 400) dL_law_32 (by unfold inR; omega) (by decide) (by decide) rfl (by decide) (lw_case12 hL hi4 hC hM nxt)
        · exact ge_tableIn (off := 391) (tgt := 423) dL_law_32 (by unfold inR; omega) (by decide) (by decide) rfl (by decide) (lw_case13 hL hi4 hC hM nxt)
        · exact ge_tableIn (off := 404) (tgt := 436) dL_law_32 (by unfold inR; omega) (by decide) (by decide) rfl (by decide) (lw_case14 hL hi4 hC hM nxt)
        · exact ge_tableIn (off := 427) (tgt := 459) dL_law_32 (by unfold inR; omega) (by decide) (by decide) rfl (by decide) (lw_case15 hL hi4 hC hM nxt)
        · exact ge_tableIn (off := 450) (tgt := 482) dL_law_32 (by unfold inR; omega) (by decide) (by decide) rfl (by decide) (lw_case16 hL hi4 hC hM nxt)
        · exact ge_tableIn (off := 473) (tgt := 505) dL_law_32 (by unfold inR; omega) (by decide) (by decide) rfl (by decide) (lw_case17 hL hi4 hC hM nxt)
        · exact ge_tableIn (off := 506) (tgt := 538) dL_law_32 (by unfold inR; omega) (by decide) (by decide) rfl (by decide) (lw_case18 hL hi4 hC hM nxt)
        · exact ge_tableIn (off := 529) (tgt := 561) dL_law_32 (by unfold inR; omega) (by decide) (by decide) rfl (by decide) (lw_case19 hL hi4 hC hM nxt)
        · exact ge_tableIn (off := 562) (tgt := 594) dL_law_32 (by unfold inR; omega) (by decide) (by decide) rfl (by decide) (lw_case20 hL hi4 hC hM nxt)
        · exact ge_tableIn (off := 585) (tgt := 617) dL_law_32 (by unfold inR; omega) (by decide) (by decide) rfl (by decide) (lw_case21 hL hi4 hC hM nxt)
        · exact ge_tableIn (off := 628) (tgt := 660) dL_law_32 (by unfold inR; omega) (by decide) (by decide) rfl (by decide) (lw_case22 hL hi4 hC hM nxt)
        · exact ge_tableIn (off := 651) (tgt := 683) dL_law_32 (by unfold inR; omega) (by decide) (by decide) rfl (by decide) (lw_case23 hL hi4 hC hM c1 c2 c3 nxt)
