/-! ===== the law's cases ===== -/
def lwS (xs : Nat → Int32) (n i : Nat) (x1 x2 x3 x4 x5 : Int32) : Prop := (vp_in (nI i + 1) n ∧ xs (nI i + 1).toNatClampNeg = x1) ∧ (vp_in (nI i + 2) n ∧ xs (nI i + 2).toNatClampNeg = x2) ∧ (vp_in (nI i + 3) n ∧ xs (nI i + 3).toNatClampNeg = x3) ∧ (vp_in (nI i + 4) n ∧ xs (nI i + 4).toNatClampNeg = x4) ∧ (vp_in (nI i + 5) n ∧ xs (nI i + 5).toNatClampNeg = x5)
theorem ca_0 {bb n i : Nat} {xs : Nat → Int32} {I : zI} {L : zL} {P : zP} {x1 x2 x3 x4 x5 : Int32} (hx : lwS xs n i x1 x2 x3 x4 x5) (h : Rn I L P) (kk : ∀ I L P, Rn I L P → zT bb n xs 813 [some (.ref 1000002), some (.ref 0), some (.ref 160), some (.int (nI i))] [] I L P 205 205 69841) : zT bb n xs 156 [some (.ref 1000002), some (.ref 0), some (.ref 160), some (.int (nI i))] [] I L P 205 205 69841 := by
  obtain ⟨tt, ss, bq, cd, h⟩ := h
  refine tz_aload dl_156 rfl ?_
  refine tz_aload dl_157 rfl ?_
  refine tz_iload dl_158 rfl ?_
  refine tz_iconst (v := 1) dl_159 (by decide) ?_
  refine tz_iadd dl_160 ?_
  refine tz_iald dl_161 hx.1.1 hx.1.2 ?_
  refine tz_aload dl_162 rfl ?_
  refine tz_iload dl_163 rfl ?_
  refine tz_iconst (v := 2) dl_164 (by decide) ?_
  refine tz_iadd dl_165 ?_
  refine tz_iald dl_166 hx.2.1.1 hx.2.1.2 ?_
  refine tz_aload dl_167 rfl ?_
  refine tz_iload dl_168 rfl ?_
  refine tz_iconst (v := 3) dl_169 (by decide) ?_
  refine tz_iadd dl_170 ?_
  refine tz_iald dl_171 hx.2.2.1.1 hx.2.2.1.2 ?_
  refine tz_aload dl_172 rfl ?_
  refine tz_iload dl_173 rfl ?_
  refine tz_iconst (v := 4) dl_174 (by decide) ?_
  refine tz_iadd dl_175 ?_
  refine tz_iald dl_176 hx.2.2.2.1.1 hx.2.2.2.1.2 ?_
  refine tz_aload dl_177 rfl ?_
  refine tz_iload dl_178 rfl ?_
  refine tz_iconst (v := 5) dl_179 (by decide) ?_
  refine tz_iadd dl_180 ?_
  refine tz_iald dl_181 hx.2.2.2.2.1 hx.2.2.2.2.2 ?_
  refine tz_callV (As := [.int x1, .int x2, .int x3, .int x4, .int x5]) (st := []) (d2 := 100) dl_182 zl_L_13 zv_X11_feed (c := 10) (by decide) rfl (by decide) rfl rfl rfl (Nat.le_of_ble_eq_true rfl) ⟨(Nat.le_of_ble_eq_true rfl), (Nat.le_of_ble_eq_true rfl)⟩ ⟨(Nat.le_of_ble_eq_true rfl), (Nat.le_of_ble_eq_true rfl)⟩ (q_feed (d := 100) h (by decide)) (fun v0 I0 L0 P0 nx0 q => ?_)
  obtain ⟨rfl, r, rfl, hP1, h2⟩ := q
  refine tz_aload dl_185 rfl ?_
  refine tz_aload dl_186 rfl ?_
  refine tz_iload dl_187 rfl ?_
  refine tz_iconst (v := 1) dl_188 (by decide) ?_
  refine tz_iadd dl_189 ?_
  refine tz_iald dl_190 hx.1.1 hx.1.2 ?_
  refine tz_aload dl_191 rfl ?_
  refine tz_iload dl_192 rfl ?_
  refine tz_iconst (v := 2) dl_193 (by decide) ?_
  refine tz_iadd dl_194 ?_
  refine tz_iald dl_195 hx.2.1.1 hx.2.1.2 ?_
  refine tz_aload dl_196 rfl ?_
  refine tz_iload dl_197 rfl ?_
  refine tz_iconst (v := 3) dl_198 (by decide) ?_
  refine tz_iadd dl_199 ?_
  refine tz_iald dl_200 hx.2.2.1.1 hx.2.2.1.2 ?_
  refine tz_aload dl_201 rfl ?_
  refine tz_iload dl_202 rfl ?_
  refine tz_iconst (v := 4) dl_203 (by decide) ?_
  refine tz_iadd dl_204 ?_
  refine tz_iald dl_205 hx.2.2.2.1.1 hx.2.2.2.1.2 ?_
  refine tz_aload dl_206 rfl ?_
  refine tz_iload dl_207 rfl ?_
  refine tz_iconst (v := 5) dl_208 (by decide) ?_
  refine tz_iadd dl_209 ?_
  refine tz_iald dl_210 hx.2.2.2.2.1 hx.2.2.2.2.2 ?_
  refine tz_callV (As := [.int x1, .int x2, .int x3, .int x4, .int x5]) (st := [.int r]) (d2 := 100) dl_211 zl_L_17 zv_X12_feed (c := 11) (by decide) rfl (by decide) rfl rfl rfl (Nat.le_of_ble_eq_true rfl) ⟨(Nat.le_of_ble_eq_true rfl), (Nat.le_of_ble_eq_true rfl)⟩ ⟨(Nat.le_of_ble_eq_true rfl), (Nat.le_of_ble_eq_true rfl)⟩ h2 (fun v1 I1 L1 P1 nx1 q => ?_)
  obtain ⟨rfl, r2, rfl, rfl, -, h3⟩ := q
  exact tz_icmp_eq (tgt := 813) dl_214 (by decide) (fun _ => kk _ _ _ h3) (fun q => absurd rfl q)
theorem ca_1 {bb n i : Nat} {xs : Nat → Int32} {I : zI} {L : zL} {P : zP} {x1 x2 x3 x4 x5 : Int32} (hx : lwS xs n i x1 x2 x3 x4 x5) (h : Rn I L P) (kk : ∀ I L P, Rn I L P → zT bb n xs 813 [some (.ref 1000002), some (.ref 0), some (.ref 160), some (.int (nI i))] [] I L P 205 205 69841) : zT bb n xs 219 [some (.ref 1000002), some (.ref 0), some (.ref 160), some (.int (nI i))] [] I L P 205 205 69841 := by
  obtain ⟨tt, ss, bq, cd, h⟩ := h
  refine tz_aload dl_219 rfl ?_
  refine tz_aload dl_220 rfl ?_
  refine tz_iload dl_221 rfl ?_
  refine tz_iconst (v := 1) dl_222 (by decide) ?_
  refine tz_iadd dl_223 ?_
  refine tz_iald dl_224 hx.1.1 hx.1.2 ?_
  refine tz_callV (As := [.int x1]) (st := []) (d2 := 100) dl_225 zl_L_18 zv_X11_end (c := 10) (by decide) rfl (by decide) rfl rfl rfl (Nat.le_of_ble_eq_true rfl) ⟨(Nat.le_of_ble_eq_true rfl), (Nat.le_of_ble_eq_true rfl)⟩ ⟨(Nat.le_of_ble_eq_true rfl), (Nat.le_of_ble_eq_true rfl)⟩ (q_end (d := 100) h) (fun v0 I0 L0 P0 nx0 q => ?_)
  obtain ⟨rfl, r, rfl, hP1, h2⟩ := q
  refine tz_aload dl_228 rfl ?_
  refine tz_aload dl_229 rfl ?_
  refine tz_iload dl_230 rfl ?_
  refine tz_iconst (v := 1) dl_231 (by decide) ?_
  refine tz_iadd dl_232 ?_
  refine tz_iald dl_233 hx.1.1 hx.1.2 ?_
  refine tz_callV (As := [.int x1]) (st := [.int r]) (d2 := 100) dl_234 zl_L_22 zv_X12_end (c := 11) (by decide) rfl (by decide) rfl rfl rfl (Nat.le_of_ble_eq_true rfl) ⟨(Nat.le_of_ble_eq_true rfl), (Nat.le_of_ble_eq_true rfl)⟩ ⟨(Nat.le_of_ble_eq_true rfl), (Nat.le_of_ble_eq_true rfl)⟩ h2 (fun v1 I1 L1 P1 nx1 q => ?_)
  obtain ⟨rfl, r2, rfl, rfl, -, h3⟩ := q
  exact tz_icmp_eq (tgt := 813) dl_237 (by decide) (fun _ => kk _ _ _ h3) (fun q => absurd rfl q)
theorem ca_2 {bb n i : Nat} {xs : Nat → Int32} {I : zI} {L : zL} {P : zP} {x1 x2 x3 x4 x5 : Int32} (hx : lwS xs n i x1 x2 x3 x4 x5) (h : Rn I L P) (kk : ∀ I L P, Rn I L P → zT bb n xs 813 [some (.ref 1000002), some (.ref 0), some (.ref 160), some (.int (nI i))] [] I L P 205 205 69841) : zT bb n xs 242 [some (.ref 1000002), some (.ref 0), some (.ref 160), some (.int (nI i))] [] I L P 205 205 69841 := by
  obtain ⟨tt, ss, bq, cd, h⟩ := h
  refine tz_aload dl_242 rfl ?_
  refine tz_callV (As := []) (st := []) (d2 := 100) dl_243 zl_L_23 zv_X11_island (c := 10) (by decide) rfl (by decide) rfl rfl rfl (Nat.le_of_ble_eq_true rfl) ⟨(Nat.le_of_ble_eq_true rfl), (Nat.le_of_ble_eq_true rfl)⟩ ⟨(Nat.le_of_ble_eq_true rfl), (Nat.le_of_ble_eq_true rfl)⟩ (q_island (d := 100) h (by decide)) (fun v0 I0 L0 P0 nx0 q => ?_)
  obtain ⟨rfl, r, rfl, hP1, h2⟩ := q
  refine tz_aload dl_246 rfl ?_
  refine tz_callV (As := []) (st := [.int r]) (d2 := 100) dl_247 zl_L_27 zv_X12_island (c := 11) (by decide) rfl (by decide) rfl rfl rfl (Nat.le_of_ble_eq_true rfl) ⟨(Nat.le_of_ble_eq_true rfl), (Nat.le_of_ble_eq_true rfl)⟩ ⟨(Nat.le_of_ble_eq_true rfl), (Nat.le_of_ble_eq_true rfl)⟩ h2 (fun v1 I1 L1 P1 nx1 q => ?_)
  obtain ⟨rfl, r2, rfl, rfl, -, h3⟩ := q
  exact tz_icmp_eq (tgt := 813) dl_250 (by decide) (fun _ => kk _ _ _ h3) (fun q => absurd rfl q)
theorem ca_3 {bb n i : Nat} {xs : Nat → Int32} {I : zI} {L : zL} {P : zP} {x1 x2 x3 x4 x5 : Int32} (hx : lwS xs n i x1 x2 x3 x4 x5) (h : Rn I L P) (kk : ∀ I L P, Rn I L P → zT bb n xs 813 [some (.ref 1000002), some (.ref 0), some (.ref 160), some (.int (nI i))] [] I L P 205 205 69841) : zT bb n xs 255 [some (.ref 1000002), some (.ref 0), some (.ref 160), some (.int (nI i))] [] I L P 205 205 69841 := by
  obtain ⟨tt, ss, bq, cd, h⟩ := h
  refine tz_aload dl_255 rfl ?_
  refine tz_aload dl_256 rfl ?_
  refine tz_iload dl_257 rfl ?_
  refine tz_iconst (v := 1) dl_258 (by decide) ?_
  refine tz_iadd dl_259 ?_
  refine tz_iald dl_260 hx.1.1 hx.1.2 ?_
  refine tz_callV (As := [.int x1]) (st := []) (d2 := 100) dl_261 zl_L_28 zv_X11_fault (c := 10) (by decide) rfl (by decide) rfl rfl rfl (Nat.le_of_ble_eq_true rfl) ⟨(Nat.le_of_ble_eq_true rfl), (Nat.le_of_ble_eq_true rfl)⟩ ⟨(Nat.le_of_ble_eq_true rfl), (Nat.le_of_ble_eq_true rfl)⟩ (q_fault (d := 100) h) (fun v0 I0 L0 P0 nx0 q => ?_)
  obtain ⟨rfl, r, rfl, hP1, h2⟩ := q
  refine tz_aload dl_264 rfl ?_
  refine tz_aload dl_265 rfl ?_
  refine tz_iload dl_266 rfl ?_
  refine tz_iconst (v := 1) dl_267 (by decide) ?_
  refine tz_iadd dl_268 ?_
  refine tz_iald dl_269 hx.1.1 hx.1.2 ?_
  refine tz_callV (As := [.int x1]) (st := [.int r]) (d2 := 100) dl_270 zl_L_31 zv_X12_fault (c := 11) (by decide) rfl (by decide) rfl rfl rfl (Nat.le_of_ble_eq_true rfl) ⟨(Nat.le_of_ble_eq_true rfl), (Nat.le_of_ble_eq_true rfl)⟩ ⟨(Nat.le_of_ble_eq_true rfl), (Nat.le_of_ble_eq_true rfl)⟩ h2 (fun v1 I1 L1 P1 nx1 q => ?_)
  obtain ⟨rfl, r2, rfl, rfl, -, h3⟩ := q
  exact tz_icmp_eq (tgt := 813) dl_273 (by decide) (fun _ => kk _ _ _ h3) (fun q => absurd rfl q)
theorem ca_4 {bb n i : Nat} {xs : Nat → Int32} {I : zI} {L : zL} {P : zP} {x1 x2 x3 x4 x5 : Int32} (hx : lwS xs n i x1 x2 x3 x4 x5) (h : Rn I L P) (kk : ∀ I L P, Rn I L P → zT bb n xs 813 [some (.ref 1000002), some (.ref 0), some (.ref 160), some (.int (nI i))] [] I L P 205 205 69841) : zT bb n xs 278 [some (.ref 1000002), some (.ref 0), some (.ref 160), some (.int (nI i))] [] I L P 205 205 69841 := by
  obtain ⟨tt, ss, bq, cd, h⟩ := h
  refine tz_aload dl_278 rfl ?_
  refine tz_aload dl_279 rfl ?_
  refine tz_iload dl_280 rfl ?_
  refine tz_iconst (v := 1) dl_281 (by decide) ?_
  refine tz_iadd dl_282 ?_
  refine tz_iald dl_283 hx.1.1 hx.1.2 ?_
  refine tz_callV (As := [.int x1]) (st := []) (d2 := 100) dl_284 zl_L_32 zv_X11_sees (c := 10) (by decide) rfl (by decide) rfl rfl rfl (Nat.le_of_ble_eq_true rfl) ⟨(Nat.le_of_ble_eq_true rfl), (Nat.le_of_ble_eq_true rfl)⟩ ⟨(Nat.le_of_ble_eq_true rfl), (Nat.le_of_ble_eq_true rfl)⟩ (q_sees (d := 100) h (by decide)) (fun v0 I0 L0 P0 nx0 q => ?_)
  obtain ⟨rfl, r, rfl, hP1, h2⟩ := q
  refine tz_aload dl_287 rfl ?_
  refine tz_aload dl_288 rfl ?_
  refine tz_iload dl_289 rfl ?_
  refine tz_iconst (v := 1) dl_290 (by decide) ?_
  refine tz_iadd dl_291 ?_
  refine tz_iald dl_292 hx.1.1 hx.1.2 ?_
  refine tz_callV (As := [.int x1]) (st := [.int r]) (d2 := 100) dl_293 zl_L_35 zv_X12_sees (c := 11) (by decide) rfl (by decide) rfl rfl rfl (Nat.le_of_ble_eq_true rfl) ⟨(Nat.le_of_ble_eq_true rfl), (Nat.le_of_ble_eq_true rfl)⟩ ⟨(Nat.le_of_ble_eq_true rfl), (Nat.le_of_ble_eq_true rfl)⟩ h2 (fun v1 I1 L1 P1 nx1 q => ?_)
  obtain ⟨rfl, r2, rfl, rfl, -, h3⟩ := q
  exact tz_icmp_eq (tgt := 813) dl_296 (by decide) (fun _ => kk _ _ _ h3) (fun q => absurd rfl q)
theorem ca_5 {bb n i : Nat} {xs : Nat → Int32} {I : zI} {L : zL} {P : zP} {x1 x2 x3 x4 x5 : Int32} (hx : lwS xs n i x1 x2 x3 x4 x5) (h : Rn I L P) (kk : ∀ I L P, Rn I L P → zT bb n xs 813 [some (.ref 1000002), some (.ref 0), some (.ref 160), some (.int (nI i))] [] I L P 205 205 69841) : zT bb n xs 301 [some (.ref 1000002), some (.ref 0), some (.ref 160), some (.int (nI i))] [] I L P 205 205 69841 := by
  obtain ⟨tt, ss, bq, cd, h⟩ := h
  refine tz_aload dl_301 rfl ?_
  refine tz_callV (As := []) (st := []) (d2 := 100) dl_302 zl_L_36 zv_X11_worlds (c := 10) (by decide) rfl (by decide) rfl rfl rfl (Nat.le_of_ble_eq_true rfl) ⟨(Nat.le_of_ble_eq_true rfl), (Nat.le_of_ble_eq_true rfl)⟩ ⟨(Nat.le_of_ble_eq_true rfl), (Nat.le_of_ble_eq_true rfl)⟩ (q_worlds (d := 100) h (by decide)) (fun v0 I0 L0 P0 nx0 q => ?_)
  obtain ⟨rfl, r, rfl, hP1, h2⟩ := q
  refine tz_aload dl_305 rfl ?_
  refine tz_callV (As := []) (st := [.int r]) (d2 := 100) dl_306 zl_L_39 zv_X12_worlds (c := 11) (by decide) rfl (by decide) rfl rfl rfl (Nat.le_of_ble_eq_true rfl) ⟨(Nat.le_of_ble_eq_true rfl), (Nat.le_of_ble_eq_true rfl)⟩ ⟨(Nat.le_of_ble_eq_true rfl), (Nat.le_of_ble_eq_true rfl)⟩ h2 (fun v1 I1 L1 P1 nx1 q => ?_)
  obtain ⟨rfl, r2, rfl, rfl, -, h3⟩ := q
  exact tz_icmp_eq (tgt := 813) dl_309 (by decide) (fun _ => kk _ _ _ h3) (fun q => absurd rfl q)
theorem ca_6 {bb n i : Nat} {xs : Nat → Int32} {I : zI} {L : zL} {P : zP} {x1 x2 x3 x4 x5 : Int32} (hx : lwS xs n i x1 x2 x3 x4 x5) (h : Rn I L P) (kk : ∀ I L P, Rn I L P → zT bb n xs 813 [some (.ref 1000002), some (.ref 0), some (.ref 160), some (.int (nI i))] [] I L P 205 205 69841) : zT bb n xs 314 [some (.ref 1000002), some (.ref 0), some (.ref 160), some (.int (nI i))] [] I L P 205 205 69841 := by
  obtain ⟨tt, ss, bq, cd, h⟩ := h
  refine tz_aload dl_314 rfl ?_
  refine tz_aload dl_315 rfl ?_
  refine tz_iload dl_316 rfl ?_
  refine tz_iconst (v := 1) dl_317 (by decide) ?_
  refine tz_iadd dl_318 ?_
  refine tz_iald dl_319 hx.1.1 hx.1.2 ?_
  refine tz_callV (As := [.int x1]) (st := []) (d2 := 100) dl_320 zl_L_40 zv_X11_possible (c := 10) (by decide) rfl (by decide) rfl rfl rfl (Nat.le_of_ble_eq_true rfl) ⟨(Nat.le_of_ble_eq_true rfl), (Nat.le_of_ble_eq_true rfl)⟩ ⟨(Nat.le_of_ble_eq_true rfl), (Nat.le_of_ble_eq_true rfl)⟩ (q_possible (d := 100) h (by decide)) (fun v0 I0 L0 P0 nx0 q => ?_)
  obtain ⟨rfl, r, rfl, hP1, h2⟩ := q
  refine tz_aload dl_323 rfl ?_
  refine tz_aload dl_324 rfl ?_
  refine tz_iload dl_325 rfl ?_
  refine tz_iconst (v := 1) dl_326 (by decide) ?_
  refine tz_iadd dl_327 ?_
  refine tz_iald dl_328 hx.1.1 hx.1.2 ?_
  refine tz_callV (As := [.int x1]) (st := [.int r]) (d2 := 100) dl_329 zl_L_43 zv_X12_possible (c := 11) (by decide) rfl (by decide) rfl rfl rfl (Nat.le_of_ble_eq_true rfl) ⟨(Nat.le_of_ble_eq_true rfl), (Nat.le_of_ble_eq_true rfl)⟩ ⟨(Nat.le_of_ble_eq_true rfl), (Nat.le_of_ble_eq_true rfl)⟩ h2 (fun v1 I1 L1 P1 nx1 q => ?_)
  obtain ⟨rfl, r2, rfl, rfl, -, h3⟩ := q
  exact tz_icmp_eq (tgt := 813) dl_332 (by decide) (fun _ => kk _ _ _ h3) (fun q => absurd rfl q)
theorem ca_7 {bb n i : Nat} {xs : Nat → Int32} {I : zI} {L : zL} {P : zP} {x1 x2 x3 x4 x5 : Int32} (hx : lwS xs n i x1 x2 x3 x4 x5) (h : Rn I L P) (kk : ∀ I L P, Rn I L P → zT bb n xs 813 [some (.ref 1000002), some (.ref 0), some (.ref 160), some (.int (nI i))] [] I L P 205 205 69841) : zT bb n xs 337 [some (.ref 1000002), some (.ref 0), some (.ref 160), some (.int (nI i))] [] I L P 205 205 69841 := by
  obtain ⟨tt, ss, bq, cd, h⟩ := h
  refine tz_aload dl_337 rfl ?_
  refine tz_aload dl_338 rfl ?_
  refine tz_iload dl_339 rfl ?_
  refine tz_iconst (v := 1) dl_340 (by decide) ?_
  refine tz_iadd dl_341 ?_
  refine tz_iald dl_342 hx.1.1 hx.1.2 ?_
  refine tz_aload dl_343 rfl ?_
  refine tz_iload dl_344 rfl ?_
  refine tz_iconst (v := 2) dl_345 (by decide) ?_
  refine tz_iadd dl_346 ?_
  refine tz_iald dl_347 hx.2.1.1 hx.2.1.2 ?_
  refine tz_aload dl_348 rfl ?_
  refine tz_iload dl_349 rfl ?_
  refine tz_iconst (v := 3) dl_350 (by decide) ?_
  refine tz_iadd dl_351 ?_
  refine tz_iald dl_352 hx.2.2.1.1 hx.2.2.1.2 ?_
  refine tz_callV (As := [.int x1, .int x2, .int x3]) (st := []) (d2 := 100) dl_353 zl_L_44 zv_X11_like (c := 10) (by decide) rfl (by decide) rfl rfl rfl (Nat.le_of_ble_eq_true rfl) ⟨(Nat.le_of_ble_eq_true rfl), (Nat.le_of_ble_eq_true rfl)⟩ ⟨(Nat.le_of_ble_eq_true rfl), (Nat.le_of_ble_eq_true rfl)⟩ (q_like (d := 100) h (by decide)) (fun v0 I0 L0 P0 nx0 q => ?_)
  obtain ⟨rfl, r, rfl, hP1, h2⟩ := q
  refine tz_aload dl_356 rfl ?_
  refine tz_aload dl_357 rfl ?_
  refine tz_iload dl_358 rfl ?_
  refine tz_iconst (v := 1) dl_359 (by decide) ?_
  refine tz_iadd dl_360 ?_
  refine tz_iald dl_361 hx.1.1 hx.1.2 ?_
  refine tz_aload dl_362 rfl ?_
  refine tz_iload dl_363 rfl ?_
  refine tz_iconst (v := 2) dl_364 (by decide) ?_
  refine tz_iadd dl_365 ?_
  refine tz_iald dl_366 hx.2.1.1 hx.2.1.2 ?_
  refine tz_aload dl_367 rfl ?_
  refine tz_iload dl_368 rfl ?_
  refine tz_iconst (v := 3) dl_369 (by decide) ?_
  refine tz_iadd dl_370 ?_
  refine tz_iald dl_371 hx.2.2.1.1 hx.2.2.1.2 ?_
  refine tz_callV (As := [.int x1, .int x2, .int x3]) (st := [.int r]) (d2 := 100) dl_372 zl_L_48 zv_X12_like (c := 11) (by decide) rfl (by decide) rfl rfl rfl (Nat.le_of_ble_eq_true rfl) ⟨(Nat.le_of_ble_eq_true rfl), (Nat.le_of_ble_eq_true rfl)⟩ ⟨(Nat.le_of_ble_eq_true rfl), (Nat.le_of_ble_eq_true rfl)⟩ h2 (fun v1 I1 L1 P1 nx1 q => ?_)
  obtain ⟨rfl, r2, rfl, rfl, -, h3⟩ := q
  exact tz_icmp_eq (tgt := 813) dl_375 (by decide) (fun _ => kk _ _ _ h3) (fun q => absurd rfl q)
theorem ca_8 {bb n i : Nat} {xs : Nat → Int32} {I : zI} {L : zL} {P : zP} {x1 x2 x3 x4 x5 : Int32} (hx : lwS xs n i x1 x2 x3 x4 x5) (h : Rn I L P) (kk : ∀ I L P, Rn I L P → zT bb n xs 813 [some (.ref 1000002), some (.ref 0), some (.ref 160), some (.int (nI i))] [] I L P 205 205 69841) : zT bb n xs 380 [some (.ref 1000002), some (.ref 0), some (.ref 160), some (.int (nI i))] [] I L P 205 205 69841 := by
  obtain ⟨tt, ss, bq, cd, h⟩ := h
  refine tz_aload dl_380 rfl ?_
  refine tz_aload dl_381 rfl ?_
  refine tz_iload dl_382 rfl ?_
  refine tz_iconst (v := 1) dl_383 (by decide) ?_
  refine tz_iadd dl_384 ?_
  refine tz_iald dl_385 hx.1.1 hx.1.2 ?_
  refine tz_callV (As := [.int x1]) (st := []) (d2 := 100) dl_386 zl_L_49 zv_X11_own (c := 10) (by decide) rfl (by decide) rfl rfl rfl (Nat.le_of_ble_eq_true rfl) ⟨(Nat.le_of_ble_eq_true rfl), (Nat.le_of_ble_eq_true rfl)⟩ ⟨(Nat.le_of_ble_eq_true rfl), (Nat.le_of_ble_eq_true rfl)⟩ (q_own (d := 100) h (by decide)) (fun v0 I0 L0 P0 nx0 q => ?_)
  obtain ⟨rfl, r, rfl, hP1, h2⟩ := q
  refine tz_aload dl_389 rfl ?_
  refine tz_aload dl_390 rfl ?_
  refine tz_iload dl_391 rfl ?_
  refine tz_iconst (v := 1) dl_392 (by decide) ?_
  refine tz_iadd dl_393 ?_
  refine tz_iald dl_394 hx.1.1 hx.1.2 ?_
  refine tz_callV (As := [.int x1]) (st := [.int r]) (d2 := 100) dl_395 zl_L_52 zv_X12_own (c := 11) (by decide) rfl (by decide) rfl rfl rfl (Nat.le_of_ble_eq_true rfl) ⟨(Nat.le_of_ble_eq_true rfl), (Nat.le_of_ble_eq_true rfl)⟩ ⟨(Nat.le_of_ble_eq_true rfl), (Nat.le_of_ble_eq_true rfl)⟩ h2 (fun v1 I1 L1 P1 nx1 q => ?_)
  obtain ⟨rfl, r2, rfl, rfl, -, h3⟩ := q
  exact tz_icmp_eq (tgt := 813) dl_398 (by decide) (fun _ => kk _ _ _ h3) (fun q => absurd rfl q)
theorem ca_9 {bb n i : Nat} {xs : Nat → Int32} {I : zI} {L : zL} {P : zP} {x1 x2 x3 x4 x5 : Int32} (hx : lwS xs n i x1 x2 x3 x4 x5) (h : Rn I L P) (kk : ∀ I L P, Rn I L P → zT bb n xs 813 [some (.ref 1000002), some (.ref 0), some (.ref 160), some (.int (nI i))] [] I L P 205 205 69841) : zT bb n xs 403 [some (.ref 1000002), some (.ref 0), some (.ref 160), some (.int (nI i))] [] I L P 205 205 69841 := by
  obtain ⟨tt, ss, bq, cd, h⟩ := h
  refine tz_aload dl_403 rfl ?_
  refine tz_callV (As := []) (st := []) (d2 := 100) dl_404 zl_L_53 zv_X11_ask (c := 10) (by decide) rfl (by decide) rfl rfl rfl (Nat.le_of_ble_eq_true rfl) ⟨(Nat.le_of_ble_eq_true rfl), (Nat.le_of_ble_eq_true rfl)⟩ ⟨(Nat.le_of_ble_eq_true rfl), (Nat.le_of_ble_eq_true rfl)⟩ (q_ask (d := 100) h (by decide)) (fun v0 I0 L0 P0 nx0 q => ?_)
  obtain ⟨rfl, r, rfl, hP1, h2⟩ := q
  refine tz_aload dl_407 rfl ?_
  refine tz_callV (As := []) (st := [.int r]) (d2 := 100) dl_408 zl_L_56 zv_X12_ask (c := 11) (by decide) rfl (by decide) rfl rfl rfl (Nat.le_of_ble_eq_true rfl) ⟨(Nat.le_of_ble_eq_true rfl), (Nat.le_of_ble_eq_true rfl)⟩ ⟨(Nat.le_of_ble_eq_true rfl), (Nat.le_of_ble_eq_true rfl)⟩ h2 (fun v1 I1 L1 P1 nx1 q => ?_)
  obtain ⟨rfl, r2, rfl, rfl, -, h3⟩ := q
  exact tz_icmp_eq (tgt := 813) dl_411 (by decide) (fun _ => kk _ _ _ h3) (fun q => absurd rfl q)
theorem ca_10 {bb n i : Nat} {xs : Nat → Int32} {I : zI} {L : zL} {P : zP} {x1 x2 x3 x4 x5 : Int32} (hx : lwS xs n i x1 x2 x3 x4 x5) (h : Rn I L P) (kk : ∀ I L P, Rn I L P → zT bb n xs 813 [some (.ref 1000002), some (.ref 0), some (.ref 160), some (.int (nI i))] [] I L P 205 205 69841) : zT bb n xs 416 [some (.ref 1000002), some (.ref 0), some (.ref 160), some (.int (nI i))] [] I L P 205 205 69841 := by
  obtain ⟨tt, ss, bq, cd, h⟩ := h
  refine tz_aload dl_416 rfl ?_
  refine tz_callV (As := []) (st := []) (d2 := 100) dl_417 zl_L_57 zv_X11_holds (c := 10) (by decide) rfl (by decide) rfl rfl rfl (Nat.le_of_ble_eq_true rfl) ⟨(Nat.le_of_ble_eq_true rfl), (Nat.le_of_ble_eq_true rfl)⟩ ⟨(Nat.le_of_ble_eq_true rfl), (Nat.le_of_ble_eq_true rfl)⟩ (q_holds (d := 100) h (by decide)) (fun v0 I0 L0 P0 nx0 q => ?_)
  obtain ⟨rfl, r, rfl, hP1, h2⟩ := q
  refine tz_aload dl_420 rfl ?_
  refine tz_callV (As := []) (st := [.int r]) (d2 := 100) dl_421 zl_L_60 zv_X12_holds (c := 11) (by decide) rfl (by decide) rfl rfl rfl (Nat.le_of_ble_eq_true rfl) ⟨(Nat.le_of_ble_eq_true rfl), (Nat.le_of_ble_eq_true rfl)⟩ ⟨(Nat.le_of_ble_eq_true rfl), (Nat.le_of_ble_eq_true rfl)⟩ h2 (fun v1 I1 L1 P1 nx1 q => ?_)
  obtain ⟨rfl, r2, rfl, rfl, -, h3⟩ := q
  exact tz_icmp_eq (tgt := 813) dl_424 (by decide) (fun _ => kk _ _ _ h3) (fun q => absurd rfl q)
theorem ca_11 {bb n i : Nat} {xs : Nat → Int32} {I : zI} {L : zL} {P : zP} {x1 x2 x3 x4 x5 : Int32} (hx : lwS xs n i x1 x2 x3 x4 x5) (h : Rn I L P) (kk : ∀ I L P, Rn I L P → zT bb n xs 813 [some (.ref 1000002), some (.ref 0), some (.ref 160), some (.int (nI i))] [] I L P 205 205 69841) : zT bb n xs 429 [some (.ref 1000002), some (.ref 0), some (.ref 160), some (.int (nI i))] [] I L P 205 205 69841 := by
  obtain ⟨tt, ss, bq, cd, h⟩ := h
  refine tz_aload dl_429 rfl ?_
  refine tz_callV (As := []) (st := []) (d2 := 100) dl_430 zl_L_61 zv_X11_deep (c := 10) (by decide) rfl (by decide) rfl rfl rfl (Nat.le_of_ble_eq_true rfl) ⟨(Nat.le_of_ble_eq_true rfl), (Nat.le_of_ble_eq_true rfl)⟩ ⟨(Nat.le_of_ble_eq_true rfl), (Nat.le_of_ble_eq_true rfl)⟩ (q_deep (d := 100) h (by decide)) (fun v0 I0 L0 P0 nx0 q => ?_)
  obtain ⟨rfl, r, rfl, hP1, h2⟩ := q
  refine tz_aload dl_433 rfl ?_
  refine tz_callV (As := []) (st := [.int r]) (d2 := 100) dl_434 zl_L_64 zv_X12_deep (c := 11) (by decide) rfl (by decide) rfl rfl rfl (Nat.le_of_ble_eq_true rfl) ⟨(Nat.le_of_ble_eq_true rfl), (Nat.le_of_ble_eq_true rfl)⟩ ⟨(Nat.le_of_ble_eq_true rfl), (Nat.le_of_ble_eq_true rfl)⟩ h2 (fun v1 I1 L1 P1 nx1 q => ?_)
  obtain ⟨rfl, r2, rfl, rfl, -, h3⟩ := q
  exact tz_icmp_eq (tgt := 813) dl_437 (by decide) (fun _ => kk _ _ _ h3) (fun q => absurd rfl q)
theorem ca_12 {bb n i : Nat} {xs : Nat → Int32} {I : zI} {L : zL} {P : zP} {x1 x2 x3 x4 x5 : Int32} (hx : lwS xs n i x1 x2 x3 x4 x5) (h : Rn I L P) (kk : ∀ I L P, Rn I L P → zT bb n xs 813 [some (.ref 1000002), some (.ref 0), some (.ref 160), some (.int (nI i))] [] I L P 205 205 69841) : zT bb n xs 442 [some (.ref 1000002), some (.ref 0), some (.ref 160), some (.int (nI i))] [] I L P 205 205 69841 := by
  obtain ⟨tt, ss, bq, cd, h⟩ := h
  refine tz_aload dl_442 rfl ?_
  refine tz_callV (As := []) (st := []) (d2 := 100) dl_443 zl_L_65 zv_X11_say (c := 10) (by decide) rfl (by decide) rfl rfl rfl (Nat.le_of_ble_eq_true rfl) ⟨(Nat.le_of_ble_eq_true rfl), (Nat.le_of_ble_eq_true rfl)⟩ ⟨(Nat.le_of_ble_eq_true rfl), (Nat.le_of_ble_eq_true rfl)⟩ (q_say (d := 100) h (by decide)) (fun v0 I0 L0 P0 nx0 q => ?_)
  obtain ⟨rfl, r, rfl, hP1, h2⟩ := q
  refine tz_aload dl_446 rfl ?_
  refine tz_callV (As := []) (st := [.int r]) (d2 := 100) dl_447 zl_L_68 zv_X12_say (c := 11) (by decide) rfl (by decide) rfl rfl rfl (Nat.le_of_ble_eq_true rfl) ⟨(Nat.le_of_ble_eq_true rfl), (Nat.le_of_ble_eq_true rfl)⟩ ⟨(Nat.le_of_ble_eq_true rfl), (Nat.le_of_ble_eq_true rfl)⟩ h2 (fun v1 I1 L1 P1 nx1 q => ?_)
  obtain ⟨rfl, r2, rfl, rfl, -, h3⟩ := q
  exact tz_icmp_eq (tgt := 813) dl_450 (by decide) (fun _ => kk _ _ _ h3) (fun q => absurd rfl q)
theorem ca_13 {bb n i : Nat} {xs : Nat → Int32} {I : zI} {L : zL} {P : zP} {x1 x2 x3 x4 x5 : Int32} (hx : lwS xs n i x1 x2 x3 x4 x5) (h : Rn I L P) (kk : ∀ I L P, Rn I L P → zT bb n xs 813 [some (.ref 1000002), some (.ref 0), some (.ref 160), some (.int (nI i))] [] I L P 205 205 69841) : zT bb n xs 455 [some (.ref 1000002), some (.ref 0), some (.ref 160), some (.int (nI i))] [] I L P 205 205 69841 := by
  obtain ⟨tt, ss, bq, cd, h⟩ := h
  refine tz_aload dl_455 rfl ?_
  refine tz_aload dl_456 rfl ?_
  refine tz_iload dl_457 rfl ?_
  refine tz_iconst (v := 1) dl_458 (by decide) ?_
  refine tz_iadd dl_459 ?_
  refine tz_iald dl_460 hx.1.1 hx.1.2 ?_
  refine tz_callV (As := [.int x1]) (st := []) (d2 := 100) dl_461 zl_L_69 zv_X11_saying (c := 10) (by decide) rfl (by decide) rfl rfl rfl (Nat.le_of_ble_eq_true rfl) ⟨(Nat.le_of_ble_eq_true rfl), (Nat.le_of_ble_eq_true rfl)⟩ ⟨(Nat.le_of_ble_eq_true rfl), (Nat.le_of_ble_eq_true rfl)⟩ (q_saying (d := 100) h (by decide)) (fun v0 I0 L0 P0 nx0 q => ?_)
  obtain ⟨rfl, r, rfl, hP1, h2⟩ := q
  refine tz_aload dl_464 rfl ?_
  refine tz_aload dl_465 rfl ?_
  refine tz_iload dl_466 rfl ?_
  refine tz_iconst (v := 1) dl_467 (by decide) ?_
  refine tz_iadd dl_468 ?_
  refine tz_iald dl_469 hx.1.1 hx.1.2 ?_
  refine tz_callV (As := [.int x1]) (st := [.int r]) (d2 := 100) dl_470 zl_L_72 zv_X12_saying (c := 11) (by decide) rfl (by decide) rfl rfl rfl (Nat.le_of_ble_eq_true rfl) ⟨(Nat.le_of_ble_eq_true rfl), (Nat.le_of_ble_eq_true rfl)⟩ ⟨(Nat.le_of_ble_eq_true rfl), (Nat.le_of_ble_eq_true rfl)⟩ h2 (fun v1 I1 L1 P1 nx1 q => ?_)
  obtain ⟨rfl, r2, rfl, rfl, -, h3⟩ := q
  exact tz_icmp_eq (tgt := 813) dl_473 (by decide) (fun _ => kk _ _ _ h3) (fun q => absurd rfl q)
theorem ca_14 {bb n i : Nat} {xs : Nat → Int32} {I : zI} {L : zL} {P : zP} {x1 x2 x3 x4 x5 : Int32} (hx : lwS xs n i x1 x2 x3 x4 x5) (h : Rn I L P) (kk : ∀ I L P, Rn I L P → zT bb n xs 813 [some (.ref 1000002), some (.ref 0), some (.ref 160), some (.int (nI i))] [] I L P 205 205 69841) : zT bb n xs 478 [some (.ref 1000002), some (.ref 0), some (.ref 160), some (.int (nI i))] [] I L P 205 205 69841 := by
  obtain ⟨tt, ss, bq, cd, h⟩ := h
  refine tz_aload dl_478 rfl ?_
  refine tz_aload dl_479 rfl ?_
  refine tz_iload dl_480 rfl ?_
  refine tz_iconst (v := 1) dl_481 (by decide) ?_
  refine tz_iadd dl_482 ?_
  refine tz_iald dl_483 hx.1.1 hx.1.2 ?_
  refine tz_callV (As := [.int x1]) (st := []) (d2 := 100) dl_484 zl_L_73 zv_X11_whisper (c := 10) (by decide) rfl (by decide) rfl rfl rfl (Nat.le_of_ble_eq_true rfl) ⟨(Nat.le_of_ble_eq_true rfl), (Nat.le_of_ble_eq_true rfl)⟩ ⟨(Nat.le_of_ble_eq_true rfl), (Nat.le_of_ble_eq_true rfl)⟩ (q_whisper (d := 100) h (by decide)) (fun v0 I0 L0 P0 nx0 q => ?_)
  obtain ⟨rfl, r, rfl, hP1, h2⟩ := q
  refine tz_aload dl_487 rfl ?_
  refine tz_aload dl_488 rfl ?_
  refine tz_iload dl_489 rfl ?_
  refine tz_iconst (v := 1) dl_490 (by decide) ?_
  refine tz_iadd dl_491 ?_
  refine tz_iald dl_492 hx.1.1 hx.1.2 ?_
  refine tz_callV (As := [.int x1]) (st := [.int r]) (d2 := 100) dl_493 zl_L_76 zv_X12_whisper (c := 11) (by decide) rfl (by decide) rfl rfl rfl (Nat.le_of_ble_eq_true rfl) ⟨(Nat.le_of_ble_eq_true rfl), (Nat.le_of_ble_eq_true rfl)⟩ ⟨(Nat.le_of_ble_eq_true rfl), (Nat.le_of_ble_eq_true rfl)⟩ h2 (fun v1 I1 L1 P1 nx1 q => ?_)
  obtain ⟨rfl, r2, rfl, rfl, -, h3⟩ := q
  exact tz_icmp_eq (tgt := 813) dl_496 (by decide) (fun _ => kk _ _ _ h3) (fun q => absurd rfl q)
theorem ca_15 {bb n i : Nat} {xs : Nat → Int32} {I : zI} {L : zL} {P : zP} {x1 x2 x3 x4 x5 : Int32} (hx : lwS xs n i x1 x2 x3 x4 x5) (h : Rn I L P) (kk : ∀ I L P, Rn I L P → zT bb n xs 813 [some (.ref 1000002), some (.ref 0), some (.ref 160), some (.int (nI i))] [] I L P 205 205 69841) : zT bb n xs 501 [some (.ref 1000002), some (.ref 0), some (.ref 160), some (.int (nI i))] [] I L P 205 205 69841 := by
  obtain ⟨tt, ss, bq, cd, h⟩ := h
  refine tz_aload dl_501 rfl ?_
  refine tz_callV (As := []) (st := []) (d2 := 100) dl_502 zl_L_77 zv_X11_night (c := 10) (by decide) rfl (by decide) rfl rfl rfl (Nat.le_of_ble_eq_true rfl) ⟨(Nat.le_of_ble_eq_true rfl), (Nat.le_of_ble_eq_true rfl)⟩ ⟨(Nat.le_of_ble_eq_true rfl), (Nat.le_of_ble_eq_true rfl)⟩ (q_night (d := 100) h (by decide)) (fun v0 I0 L0 P0 nx0 q => ?_)
  obtain ⟨rfl, r, rfl, hP1, h2⟩ := q
  refine tz_aload dl_505 rfl ?_
  refine tz_callV (As := []) (st := [.int r]) (d2 := 100) dl_506 zl_L_80 zv_X12_night (c := 11) (by decide) rfl (by decide) rfl rfl rfl (Nat.le_of_ble_eq_true rfl) ⟨(Nat.le_of_ble_eq_true rfl), (Nat.le_of_ble_eq_true rfl)⟩ ⟨(Nat.le_of_ble_eq_true rfl), (Nat.le_of_ble_eq_true rfl)⟩ h2 (fun v1 I1 L1 P1 nx1 q => ?_)
  obtain ⟨rfl, r2, rfl, rfl, -, h3⟩ := q
  exact tz_icmp_eq (tgt := 813) dl_509 (by decide) (fun _ => kk _ _ _ h3) (fun q => absurd rfl q)
theorem ca_16 {bb n i : Nat} {xs : Nat → Int32} {I : zI} {L : zL} {P : zP} {x1 x2 x3 x4 x5 : Int32} (hx : lwS xs n i x1 x2 x3 x4 x5) (h : Rn I L P) (kk : ∀ I L P, Rn I L P → zT bb n xs 813 [some (.ref 1000002), some (.ref 0), some (.ref 160), some (.int (nI i))] [] I L P 205 205 69841) : zT bb n xs 514 [some (.ref 1000002), some (.ref 0), some (.ref 160), some (.int (nI i))] [] I L P 205 205 69841 := by
  obtain ⟨tt, ss, bq, cd, h⟩ := h
  refine tz_aload dl_514 rfl ?_
  refine tz_callV (As := []) (st := []) (d2 := 100) dl_515 zl_L_81 zv_X11_gone (c := 10) (by decide) rfl (by decide) rfl rfl rfl (Nat.le_of_ble_eq_true rfl) ⟨(Nat.le_of_ble_eq_true rfl), (Nat.le_of_ble_eq_true rfl)⟩ ⟨(Nat.le_of_ble_eq_true rfl), (Nat.le_of_ble_eq_true rfl)⟩ (q_gone (d := 100) h) (fun v0 I0 L0 P0 nx0 q => ?_)
  obtain ⟨rfl, r, rfl, hP1, h2⟩ := q
  refine tz_aload dl_518 rfl ?_
  refine tz_callV (As := []) (st := [.int r]) (d2 := 100) dl_519 zl_L_84 zv_X12_gone (c := 11) (by decide) rfl (by decide) rfl rfl rfl (Nat.le_of_ble_eq_true rfl) ⟨(Nat.le_of_ble_eq_true rfl), (Nat.le_of_ble_eq_true rfl)⟩ ⟨(Nat.le_of_ble_eq_true rfl), (Nat.le_of_ble_eq_true rfl)⟩ h2 (fun v1 I1 L1 P1 nx1 q => ?_)
  obtain ⟨rfl, r2, rfl, rfl, -, h3⟩ := q
  exact tz_icmp_eq (tgt := 813) dl_522 (by decide) (fun _ => kk _ _ _ h3) (fun q => absurd rfl q)
theorem ca_17 {bb n i : Nat} {xs : Nat → Int32} {I : zI} {L : zL} {P : zP} {x1 x2 x3 x4 x5 : Int32} (hx : lwS xs n i x1 x2 x3 x4 x5) (h : Rn I L P) (kk : ∀ I L P, Rn I L P → zT bb n xs 813 [some (.ref 1000002), some (.ref 0), some (.ref 160), some (.int (nI i))] [] I L P 205 205 69841) : zT bb n xs 527 [some (.ref 1000002), some (.ref 0), some (.ref 160), some (.int (nI i))] [] I L P 205 205 69841 := by
  obtain ⟨tt, ss, bq, cd, h⟩ := h
  refine tz_aload dl_527 rfl ?_
  refine tz_aload dl_528 rfl ?_
  refine tz_iload dl_529 rfl ?_
  refine tz_iconst (v := 1) dl_530 (by decide) ?_
  refine tz_iadd dl_531 ?_
  refine tz_iald dl_532 hx.1.1 hx.1.2 ?_
  refine tz_callV (As := [.int x1]) (st := []) (d2 := 100) dl_533 zl_L_85 zv_X11_when (c := 10) (by decide) rfl (by decide) rfl rfl rfl (Nat.le_of_ble_eq_true rfl) ⟨(Nat.le_of_ble_eq_true rfl), (Nat.le_of_ble_eq_true rfl)⟩ ⟨(Nat.le_of_ble_eq_true rfl), (Nat.le_of_ble_eq_true rfl)⟩ (q_when (d := 100) h (by decide)) (fun v0 I0 L0 P0 nx0 q => ?_)
  obtain ⟨rfl, r, rfl, hP1, h2⟩ := q
  refine tz_aload dl_536 rfl ?_
  refine tz_aload dl_537 rfl ?_
  refine tz_iload dl_538 rfl ?_
  refine tz_iconst (v := 1) dl_539 (by decide) ?_
  refine tz_iadd dl_540 ?_
  refine tz_iald dl_541 hx.1.1 hx.1.2 ?_
  refine tz_callV (As := [.int x1]) (st := [.int r]) (d2 := 100) dl_542 zl_L_88 zv_X12_when (c := 11) (by decide) rfl (by decide) rfl rfl rfl (Nat.le_of_ble_eq_true rfl) ⟨(Nat.le_of_ble_eq_true rfl), (Nat.le_of_ble_eq_true rfl)⟩ ⟨(Nat.le_of_ble_eq_true rfl), (Nat.le_of_ble_eq_true rfl)⟩ h2 (fun v1 I1 L1 P1 nx1 q => ?_)
  obtain ⟨rfl, r2, rfl, rfl, -, h3⟩ := q
  exact tz_icmp_eq (tgt := 813) dl_545 (by decide) (fun _ => kk _ _ _ h3) (fun q => absurd rfl q)
theorem ca_18 {bb n i : Nat} {xs : Nat → Int32} {I : zI} {L : zL} {P : zP} {x1 x2 x3 x4 x5 : Int32} (hx : lwS xs n i x1 x2 x3 x4 x5) (h : Rn I L P) (kk : ∀ I L P, Rn I L P → zT bb n xs 813 [some (.ref 1000002), some (.ref 0), some (.ref 160), some (.int (nI i))] [] I L P 205 205 69841) : zT bb n xs 550 [some (.ref 1000002), some (.ref 0), some (.ref 160), some (.int (nI i))] [] I L P 205 205 69841 := by
  obtain ⟨tt, ss, bq, cd, h⟩ := h
  refine tz_aload dl_550 rfl ?_
  refine tz_aload dl_551 rfl ?_
  refine tz_iload dl_552 rfl ?_
  refine tz_iconst (v := 1) dl_553 (by decide) ?_
  refine tz_iadd dl_554 ?_
  refine tz_iald dl_555 hx.1.1 hx.1.2 ?_
  refine tz_aload dl_556 rfl ?_
  refine tz_iload dl_557 rfl ?_
  refine tz_iconst (v := 2) dl_558 (by decide) ?_
  refine tz_iadd dl_559 ?_
  refine tz_iald dl_560 hx.2.1.1 hx.2.1.2 ?_
  refine tz_callV (As := [.int x1, .int x2]) (st := []) (d2 := 100) dl_561 zl_L_89 zv_X11_fewest (c := 10) (by decide) rfl (by decide) rfl rfl rfl (Nat.le_of_ble_eq_true rfl) ⟨(Nat.le_of_ble_eq_true rfl), (Nat.le_of_ble_eq_true rfl)⟩ ⟨(Nat.le_of_ble_eq_true rfl), (Nat.le_of_ble_eq_true rfl)⟩ (q_fewest (d := 100) h (by decide)) (fun v0 I0 L0 P0 nx0 q => ?_)
  obtain ⟨rfl, r, rfl, hP1, h2⟩ := q
  refine tz_aload dl_564 rfl ?_
  refine tz_aload dl_565 rfl ?_
  refine tz_iload dl_566 rfl ?_
  refine tz_iconst (v := 1) dl_567 (by decide) ?_
  refine tz_iadd dl_568 ?_
  refine tz_iald dl_569 hx.1.1 hx.1.2 ?_
  refine tz_aload dl_570 rfl ?_
  refine tz_iload dl_571 rfl ?_
  refine tz_iconst (v := 2) dl_572 (by decide) ?_
  refine tz_iadd dl_573 ?_
  refine tz_iald dl_574 hx.2.1.1 hx.2.1.2 ?_
  refine tz_callV (As := [.int x1, .int x2]) (st := [.int r]) (d2 := 100) dl_575 zl_L_93 zv_X12_fewest (c := 11) (by decide) rfl (by decide) rfl rfl rfl (Nat.le_of_ble_eq_true rfl) ⟨(Nat.le_of_ble_eq_true rfl), (Nat.le_of_ble_eq_true rfl)⟩ ⟨(Nat.le_of_ble_eq_true rfl), (Nat.le_of_ble_eq_true rfl)⟩ h2 (fun v1 I1 L1 P1 nx1 q => ?_)
  obtain ⟨rfl, r2, rfl, rfl, -, h3⟩ := q
  exact tz_icmp_eq (tgt := 813) dl_578 (by decide) (fun _ => kk _ _ _ h3) (fun q => absurd rfl q)
theorem ca_19 {bb n i : Nat} {xs : Nat → Int32} {I : zI} {L : zL} {P : zP} {x1 x2 x3 x4 x5 : Int32} (hx : lwS xs n i x1 x2 x3 x4 x5) (h : Rn I L P) (kk : ∀ I L P, Rn I L P → zT bb n xs 813 [some (.ref 1000002), some (.ref 0), some (.ref 160), some (.int (nI i))] [] I L P 205 205 69841) : zT bb n xs 583 [some (.ref 1000002), some (.ref 0), some (.ref 160), some (.int (nI i))] [] I L P 205 205 69841 := by
  obtain ⟨tt, ss, bq, cd, h⟩ := h
  by_cases hz : x3 = 0
  · skip
    refine tz_aload dl_583 rfl ?_
    refine tz_aload dl_584 rfl ?_
    refine tz_iload dl_585 rfl ?_
    refine tz_iconst (v := 1) dl_586 (by decide) ?_
    refine tz_iadd dl_587 ?_
    refine tz_iald dl_588 hx.1.1 hx.1.2 ?_
    refine tz_aload dl_589 rfl ?_
    refine tz_iload dl_590 rfl ?_
    refine tz_iconst (v := 2) dl_591 (by decide) ?_
    refine tz_iadd dl_592 ?_
    refine tz_iald dl_593 hx.2.1.1 hx.2.1.2 ?_
    refine tz_aload dl_594 rfl ?_
    refine tz_iload dl_595 rfl ?_
    refine tz_iconst (v := 3) dl_596 (by decide) ?_
    refine tz_iadd dl_597 ?_
    refine tz_iald dl_598 hx.2.2.1.1 hx.2.2.1.2 ?_
    refine tz_if_eq (tgt := 606) dl_599 (by decide) (fun _ => ?_) (fun q => absurd hz q)
    refine tz_iconst (v := 0) dl_606 (by decide) ?_
    refine tz_callV (As := [.int x1, .int x2, .int 0]) (st := []) (d2 := 100) dl_607 zl_L_94 zv_X11_sight (c := 10) (by decide) rfl (by decide) rfl rfl rfl (Nat.le_of_ble_eq_true rfl) ⟨(Nat.le_of_ble_eq_true rfl), (Nat.le_of_ble_eq_true rfl)⟩ ⟨(Nat.le_of_ble_eq_true rfl), (Nat.le_of_ble_eq_true rfl)⟩ (q_sight (d := 100) h (Or.inl rfl) (by decide)) (fun v0 I0 L0 P0 nx0 q => ?_)
    obtain ⟨rfl, r, rfl, hP1, h2⟩ := q
    refine tz_aload dl_610 rfl ?_
    refine tz_aload dl_611 rfl ?_
    refine tz_iload dl_612 rfl ?_
    refine tz_iconst (v := 1) dl_613 (by decide) ?_
    refine tz_iadd dl_614 ?_
    refine tz_iald dl_615 hx.1.1 hx.1.2 ?_
    refine tz_aload dl_616 rfl ?_
    refine tz_iload dl_617 rfl ?_
    refine tz_iconst (v := 2) dl_618 (by decide) ?_
    refine tz_iadd dl_619 ?_
    refine tz_iald dl_620 hx.2.1.1 hx.2.1.2 ?_
    refine tz_aload dl_621 rfl ?_
    refine tz_iload dl_622 rfl ?_
    refine tz_iconst (v := 3) dl_623 (by decide) ?_
    refine tz_iadd dl_624 ?_
    refine tz_iald dl_625 hx.2.2.1.1 hx.2.2.1.2 ?_
    refine tz_if_eq (tgt := 633) dl_626 (by decide) (fun _ => ?_) (fun q => absurd hz q)
    refine tz_iconst (v := 0) dl_633 (by decide) ?_
    refine tz_callV (As := [.int x1, .int x2, .int 0]) (st := [.int r]) (d2 := 100) dl_634 zl_L_98 zv_X12_sight (c := 11) (by decide) rfl (by decide) rfl rfl rfl (Nat.le_of_ble_eq_true rfl) ⟨(Nat.le_of_ble_eq_true rfl), (Nat.le_of_ble_eq_true rfl)⟩ ⟨(Nat.le_of_ble_eq_true rfl), (Nat.le_of_ble_eq_true rfl)⟩ h2 (fun v1 I1 L1 P1 nx1 q => ?_)
    obtain ⟨rfl, r2, rfl, rfl, -, h3⟩ := q
    exact tz_icmp_eq (tgt := 813) dl_637 (by decide) (fun _ => kk _ _ _ h3) (fun q => absurd rfl q)
  · skip
    refine tz_aload dl_583 rfl ?_
    refine tz_aload dl_584 rfl ?_
    refine tz_iload dl_585 rfl ?_
    refine tz_iconst (v := 1) dl_586 (by decide) ?_
    refine tz_iadd dl_587 ?_
    refine tz_iald dl_588 hx.1.1 hx.1.2 ?_
    refine tz_aload dl_589 rfl ?_
    refine tz_iload dl_590 rfl ?_
    refine tz_iconst (v := 2) dl_591 (by decide) ?_
    refine tz_iadd dl_592 ?_
    refine tz_iald dl_593 hx.2.1.1 hx.2.1.2 ?_
    refine tz_aload dl_594 rfl ?_
    refine tz_iload dl_595 rfl ?_
    refine tz_iconst (v := 3) dl_596 (by decide) ?_
    refine tz_iadd dl_597 ?_
    refine tz_iald dl_598 hx.2.2.1.1 hx.2.2.1.2 ?_
    refine tz_if_eq (tgt := 606) dl_599 (by decide) (fun q => absurd q hz) (fun _ => ?_)
    refine tz_iconst (v := 1) dl_602 (by decide) ?_
    refine tz_goto (tgt := 607) dl_603 (by decide) ?_
    refine tz_callV (As := [.int x1, .int x2, .int 1]) (st := []) (d2 := 100) dl_607 zl_L_94 zv_X11_sight (c := 10) (by decide) rfl (by decide) rfl rfl rfl (Nat.le_of_ble_eq_true rfl) ⟨(Nat.le_of_ble_eq_true rfl), (Nat.le_of_ble_eq_true rfl)⟩ ⟨(Nat.le_of_ble_eq_true rfl), (Nat.le_of_ble_eq_true rfl)⟩ (q_sight (d := 100) h (Or.inr rfl) (by decide)) (fun v0 I0 L0 P0 nx0 q => ?_)
    obtain ⟨rfl, r, rfl, hP1, h2⟩ := q
    refine tz_aload dl_610 rfl ?_
    refine tz_aload dl_611 rfl ?_
    refine tz_iload dl_612 rfl ?_
    refine tz_iconst (v := 1) dl_613 (by decide) ?_
    refine tz_iadd dl_614 ?_
    refine tz_iald dl_615 hx.1.1 hx.1.2 ?_
    refine tz_aload dl_616 rfl ?_
    refine tz_iload dl_617 rfl ?_
    refine tz_iconst (v := 2) dl_618 (by decide) ?_
    refine tz_iadd dl_619 ?_
    refine tz_iald dl_620 hx.2.1.1 hx.2.1.2 ?_
    refine tz_aload dl_621 rfl ?_
    refine tz_iload dl_622 rfl ?_
    refine tz_iconst (v := 3) dl_623 (by decide) ?_
    refine tz_iadd dl_624 ?_
    refine tz_iald dl_625 hx.2.2.1.1 hx.2.2.1.2 ?_
    refine tz_if_eq (tgt := 633) dl_626 (by decide) (fun q => absurd q hz) (fun _ => ?_)
    refine tz_iconst (v := 1) dl_629 (by decide) ?_
    refine tz_goto (tgt := 634) dl_630 (by decide) ?_
    refine tz_callV (As := [.int x1, .int x2, .int 1]) (st := [.int r]) (d2 := 100) dl_634 zl_L_98 zv_X12_sight (c := 11) (by decide) rfl (by decide) rfl rfl rfl (Nat.le_of_ble_eq_true rfl) ⟨(Nat.le_of_ble_eq_true rfl), (Nat.le_of_ble_eq_true rfl)⟩ ⟨(Nat.le_of_ble_eq_true rfl), (Nat.le_of_ble_eq_true rfl)⟩ h2 (fun v1 I1 L1 P1 nx1 q => ?_)
    obtain ⟨rfl, r2, rfl, rfl, -, h3⟩ := q
    exact tz_icmp_eq (tgt := 813) dl_637 (by decide) (fun _ => kk _ _ _ h3) (fun q => absurd rfl q)
theorem ca_20 {bb n i : Nat} {xs : Nat → Int32} {I : zI} {L : zL} {P : zP} {x1 x2 x3 x4 x5 : Int32} (hx : lwS xs n i x1 x2 x3 x4 x5) (h : Rn I L P) (kk : ∀ I L P, Rn I L P → zT bb n xs 813 [some (.ref 1000002), some (.ref 0), some (.ref 160), some (.int (nI i))] [] I L P 205 205 69841) : zT bb n xs 642 [some (.ref 1000002), some (.ref 0), some (.ref 160), some (.int (nI i))] [] I L P 205 205 69841 := by
  obtain ⟨tt, ss, bq, cd, h⟩ := h
  refine tz_aload dl_642 rfl ?_
  refine tz_aload dl_643 rfl ?_
  refine tz_iload dl_644 rfl ?_
  refine tz_iconst (v := 1) dl_645 (by decide) ?_
  refine tz_iadd dl_646 ?_
  refine tz_iald dl_647 hx.1.1 hx.1.2 ?_
  refine tz_callV (As := [.int x1]) (st := []) (d2 := 100) dl_648 zl_L_99 zv_X11_untell (c := 10) (by decide) rfl (by decide) rfl rfl rfl (Nat.le_of_ble_eq_true rfl) ⟨(Nat.le_of_ble_eq_true rfl), (Nat.le_of_ble_eq_true rfl)⟩ ⟨(Nat.le_of_ble_eq_true rfl), (Nat.le_of_ble_eq_true rfl)⟩ (q_untell (d := 100) h (by decide)) (fun v0 I0 L0 P0 nx0 q => ?_)
  obtain ⟨rfl, r, rfl, hP1, h2⟩ := q
  refine tz_aload dl_651 rfl ?_
  refine tz_aload dl_652 rfl ?_
  refine tz_iload dl_653 rfl ?_
  refine tz_iconst (v := 1) dl_654 (by decide) ?_
  refine tz_iadd dl_655 ?_
  refine tz_iald dl_656 hx.1.1 hx.1.2 ?_
  refine tz_callV (As := [.int x1]) (st := [.int r]) (d2 := 100) dl_657 zl_L_103 zv_X12_untell (c := 11) (by decide) rfl (by decide) rfl rfl rfl (Nat.le_of_ble_eq_true rfl) ⟨(Nat.le_of_ble_eq_true rfl), (Nat.le_of_ble_eq_true rfl)⟩ ⟨(Nat.le_of_ble_eq_true rfl), (Nat.le_of_ble_eq_true rfl)⟩ h2 (fun v1 I1 L1 P1 nx1 q => ?_)
  obtain ⟨rfl, r2, rfl, rfl, -, h3⟩ := q
  exact tz_icmp_eq (tgt := 813) dl_660 (by decide) (fun _ => kk _ _ _ h3) (fun q => absurd rfl q)
theorem ca_21 {bb n i : Nat} {xs : Nat → Int32} {I : zI} {L : zL} {P : zP} {x1 x2 x3 x4 x5 : Int32} (hx : lwS xs n i x1 x2 x3 x4 x5) (h : Rn I L P) (kk : ∀ I L P, Rn I L P → zT bb n xs 813 [some (.ref 1000002), some (.ref 0), some (.ref 160), some (.int (nI i))] [] I L P 205 205 69841) : zT bb n xs 665 [some (.ref 1000002), some (.ref 0), some (.ref 160), some (.int (nI i))] [] I L P 205 205 69841 := by
  obtain ⟨tt, ss, bq, cd, h⟩ := h
  refine tz_aload dl_665 rfl ?_
  refine tz_aload dl_666 rfl ?_
  refine tz_iload dl_667 rfl ?_
  refine tz_iconst (v := 1) dl_668 (by decide) ?_
  refine tz_iadd dl_669 ?_
  refine tz_iald dl_670 hx.1.1 hx.1.2 ?_
  refine tz_callV (As := [.int x1]) (st := []) (d2 := 100) dl_671 zl_L_104 zv_X11_later (c := 10) (by decide) rfl (by decide) rfl rfl rfl (Nat.le_of_ble_eq_true rfl) ⟨(Nat.le_of_ble_eq_true rfl), (Nat.le_of_ble_eq_true rfl)⟩ ⟨(Nat.le_of_ble_eq_true rfl), (Nat.le_of_ble_eq_true rfl)⟩ (q_later (d := 100) h (by decide)) (fun v0 I0 L0 P0 nx0 q => ?_)
  obtain ⟨rfl, r, rfl, hP1, h2⟩ := q
  refine tz_aload dl_674 rfl ?_
  refine tz_aload dl_675 rfl ?_
  refine tz_iload dl_676 rfl ?_
  refine tz_iconst (v := 1) dl_677 (by decide) ?_
  refine tz_iadd dl_678 ?_
  refine tz_iald dl_679 hx.1.1 hx.1.2 ?_
  refine tz_callV (As := [.int x1]) (st := [.int r]) (d2 := 100) dl_680 zl_L_107 zv_X12_later (c := 11) (by decide) rfl (by decide) rfl rfl rfl (Nat.le_of_ble_eq_true rfl) ⟨(Nat.le_of_ble_eq_true rfl), (Nat.le_of_ble_eq_true rfl)⟩ ⟨(Nat.le_of_ble_eq_true rfl), (Nat.le_of_ble_eq_true rfl)⟩ h2 (fun v1 I1 L1 P1 nx1 q => ?_)
  obtain ⟨rfl, r2, rfl, rfl, -, h3⟩ := q
  exact tz_icmp_eq (tgt := 813) dl_683 (by decide) (fun _ => kk _ _ _ h3) (fun q => absurd rfl q)
theorem ca_22 {bb n i : Nat} {xs : Nat → Int32} {I : zI} {L : zL} {P : zP} {x1 x2 x3 x4 x5 : Int32} (hx : lwS xs n i x1 x2 x3 x4 x5) (h : Rn I L P) (kk : ∀ I L P, Rn I L P → zT bb n xs 813 [some (.ref 1000002), some (.ref 0), some (.ref 160), some (.int (nI i))] [] I L P 205 205 69841) : zT bb n xs 688 [some (.ref 1000002), some (.ref 0), some (.ref 160), some (.int (nI i))] [] I L P 205 205 69841 := by
  obtain ⟨tt, ss, bq, cd, h⟩ := h
  refine tz_aload dl_688 rfl ?_
  refine tz_aload dl_689 rfl ?_
  refine tz_iload dl_690 rfl ?_
  refine tz_iconst (v := 1) dl_691 (by decide) ?_
  refine tz_iadd dl_692 ?_
  refine tz_iald dl_693 hx.1.1 hx.1.2 ?_
  refine tz_callV (As := [.int x1]) (st := []) (d2 := 100) dl_694 zl_L_108 zv_X11_fits (c := 10) (by decide) rfl (by decide) rfl rfl rfl (Nat.le_of_ble_eq_true rfl) ⟨(Nat.le_of_ble_eq_true rfl), (Nat.le_of_ble_eq_true rfl)⟩ ⟨(Nat.le_of_ble_eq_true rfl), (Nat.le_of_ble_eq_true rfl)⟩ (q_fits (d := 100) h (by decide)) (fun v0 I0 L0 P0 nx0 q => ?_)
  obtain ⟨rfl, r, rfl, hP1, h2⟩ := q
  refine tz_aload dl_697 rfl ?_
  refine tz_aload dl_698 rfl ?_
  refine tz_iload dl_699 rfl ?_
  refine tz_iconst (v := 1) dl_700 (by decide) ?_
  refine tz_iadd dl_701 ?_
  refine tz_iald dl_702 hx.1.1 hx.1.2 ?_
  refine tz_callV (As := [.int x1]) (st := [.int r]) (d2 := 100) dl_703 zl_L_111 zv_X12_fits (c := 11) (by decide) rfl (by decide) rfl rfl rfl (Nat.le_of_ble_eq_true rfl) ⟨(Nat.le_of_ble_eq_true rfl), (Nat.le_of_ble_eq_true rfl)⟩ ⟨(Nat.le_of_ble_eq_true rfl), (Nat.le_of_ble_eq_true rfl)⟩ h2 (fun v1 I1 L1 P1 nx1 q => ?_)
  obtain ⟨rfl, r2, rfl, rfl, -, h3⟩ := q
  exact tz_icmp_eq (tgt := 813) dl_706 (by decide) (fun _ => kk _ _ _ h3) (fun q => absurd rfl q)
theorem ca_23 {bb n i : Nat} {xs : Nat → Int32} {I : zI} {L : zL} {P : zP} {x1 x2 x3 x4 x5 : Int32} (hx : lwS xs n i x1 x2 x3 x4 x5) (h : Rn I L P) (kk : ∀ I L P, Rn I L P → zT bb n xs 813 [some (.ref 1000002), some (.ref 0), some (.ref 160), some (.int (nI i))] [] I L P 205 205 69841) : zT bb n xs 711 [some (.ref 1000002), some (.ref 0), some (.ref 160), some (.int (nI i))] [] I L P 205 205 69841 := by
  obtain ⟨tt, ss, bq, cd, h⟩ := h
  refine tz_aload dl_711 rfl ?_
  refine tz_aload dl_712 rfl ?_
  refine tz_iload dl_713 rfl ?_
  refine tz_iconst (v := 1) dl_714 (by decide) ?_
  refine tz_iadd dl_715 ?_
  refine tz_iald dl_716 hx.1.1 hx.1.2 ?_
  refine tz_aload dl_717 rfl ?_
  refine tz_iload dl_718 rfl ?_
  refine tz_iconst (v := 2) dl_719 (by decide) ?_
  refine tz_iadd dl_720 ?_
  refine tz_iald dl_721 hx.2.1.1 hx.2.1.2 ?_
  refine tz_callV (As := [.int x1, .int x2]) (st := []) (d2 := 100) dl_722 zl_L_112 zv_X11_sure (c := 10) (by decide) rfl (by decide) rfl rfl rfl (Nat.le_of_ble_eq_true rfl) ⟨(Nat.le_of_ble_eq_true rfl), (Nat.le_of_ble_eq_true rfl)⟩ ⟨(Nat.le_of_ble_eq_true rfl), (Nat.le_of_ble_eq_true rfl)⟩ (q_sure (d := 100) h (by decide)) (fun v0 I0 L0 P0 nx0 q => ?_)
  obtain ⟨rfl, r, rfl, hP1, h2⟩ := q
  refine tz_aload dl_725 rfl ?_
  refine tz_aload dl_726 rfl ?_
  refine tz_iload dl_727 rfl ?_
  refine tz_iconst (v := 1) dl_728 (by decide) ?_
  refine tz_iadd dl_729 ?_
  refine tz_iald dl_730 hx.1.1 hx.1.2 ?_
  refine tz_aload dl_731 rfl ?_
  refine tz_iload dl_732 rfl ?_
  refine tz_iconst (v := 2) dl_733 (by decide) ?_
  refine tz_iadd dl_734 ?_
  refine tz_iald dl_735 hx.2.1.1 hx.2.1.2 ?_
  refine tz_callV (As := [.int x1, .int x2]) (st := [.int r]) (d2 := 100) dl_736 zl_L_115 zv_X12_sure (c := 11) (by decide) rfl (by decide) rfl rfl rfl (Nat.le_of_ble_eq_true rfl) ⟨(Nat.le_of_ble_eq_true rfl), (Nat.le_of_ble_eq_true rfl)⟩ ⟨(Nat.le_of_ble_eq_true rfl), (Nat.le_of_ble_eq_true rfl)⟩ h2 (fun v1 I1 L1 P1 nx1 q => ?_)
  obtain ⟨rfl, r2, rfl, rfl, -, h3⟩ := q
  exact tz_icmp_eq (tgt := 813) dl_739 (by decide) (fun _ => kk _ _ _ h3) (fun q => absurd rfl q)
theorem ca_24 {bb n i : Nat} {xs : Nat → Int32} {I : zI} {L : zL} {P : zP} {x1 x2 x3 x4 x5 : Int32} (hx : lwS xs n i x1 x2 x3 x4 x5) (h : Rn I L P) (kk : ∀ I L P, Rn I L P → zT bb n xs 813 [some (.ref 1000002), some (.ref 0), some (.ref 160), some (.int (nI i))] [] I L P 205 205 69841) : zT bb n xs 744 [some (.ref 1000002), some (.ref 0), some (.ref 160), some (.int (nI i))] [] I L P 205 205 69841 := by
  obtain ⟨tt, ss, bq, cd, h⟩ := h
  refine tz_aload dl_744 rfl ?_
  refine tz_aload dl_745 rfl ?_
  refine tz_iload dl_746 rfl ?_
  refine tz_iconst (v := 1) dl_747 (by decide) ?_
  refine tz_iadd dl_748 ?_
  refine tz_iald dl_749 hx.1.1 hx.1.2 ?_
  refine tz_callV (As := [.int x1]) (st := []) (d2 := 100) dl_750 zl_L_116 zv_X11_image (c := 10) (by decide) rfl (by decide) rfl rfl rfl (Nat.le_of_ble_eq_true rfl) ⟨(Nat.le_of_ble_eq_true rfl), (Nat.le_of_ble_eq_true rfl)⟩ ⟨(Nat.le_of_ble_eq_true rfl), (Nat.le_of_ble_eq_true rfl)⟩ (q_image (d := 100) h (by decide)) (fun v0 I0 L0 P0 nx0 q => ?_)
  obtain ⟨rfl, r, rfl, hP1, h2⟩ := q
  refine tz_aload dl_753 rfl ?_
  refine tz_aload dl_754 rfl ?_
  refine tz_iload dl_755 rfl ?_
  refine tz_iconst (v := 1) dl_756 (by decide) ?_
  refine tz_iadd dl_757 ?_
  refine tz_iald dl_758 hx.1.1 hx.1.2 ?_
  refine tz_callV (As := [.int x1]) (st := [.int r]) (d2 := 100) dl_759 zl_L_119 zv_X12_image (c := 11) (by decide) rfl (by decide) rfl rfl rfl (Nat.le_of_ble_eq_true rfl) ⟨(Nat.le_of_ble_eq_true rfl), (Nat.le_of_ble_eq_true rfl)⟩ ⟨(Nat.le_of_ble_eq_true rfl), (Nat.le_of_ble_eq_true rfl)⟩ h2 (fun v1 I1 L1 P1 nx1 q => ?_)
  obtain ⟨rfl, r2, rfl, rfl, -, h3⟩ := q
  exact tz_icmp_eq (tgt := 813) dl_762 (by decide) (fun _ => kk _ _ _ h3) (fun q => absurd rfl q)
theorem ca_25 {bb n i : Nat} {xs : Nat → Int32} {I : zI} {L : zL} {P : zP} {x1 x2 x3 x4 x5 : Int32} (hx : lwS xs n i x1 x2 x3 x4 x5) (h : Rn I L P) (kk : ∀ I L P, Rn I L P → zT bb n xs 813 [some (.ref 1000002), some (.ref 0), some (.ref 160), some (.int (nI i))] [] I L P 205 205 69841) : zT bb n xs 767 [some (.ref 1000002), some (.ref 0), some (.ref 160), some (.int (nI i))] [] I L P 205 205 69841 := by
  obtain ⟨tt, ss, bq, cd, h⟩ := h
  refine tz_aload dl_767 rfl ?_
  refine tz_aload dl_768 rfl ?_
  refine tz_iload dl_769 rfl ?_
  refine tz_iconst (v := 1) dl_770 (by decide) ?_
  refine tz_iadd dl_771 ?_
  refine tz_iald dl_772 hx.1.1 hx.1.2 ?_
  refine tz_callV (As := [.int x1]) (st := []) (d2 := 100) dl_773 zl_L_120 zv_X11_back (c := 10) (by decide) rfl (by decide) rfl rfl rfl (Nat.le_of_ble_eq_true rfl) ⟨(Nat.le_of_ble_eq_true rfl), (Nat.le_of_ble_eq_true rfl)⟩ ⟨(Nat.le_of_ble_eq_true rfl), (Nat.le_of_ble_eq_true rfl)⟩ (q_back (d := 100) h (by decide)) (fun v0 I0 L0 P0 nx0 q => ?_)
  obtain ⟨rfl, r, rfl, hP1, h2⟩ := q
  refine tz_aload dl_776 rfl ?_
  refine tz_aload dl_777 rfl ?_
  refine tz_iload dl_778 rfl ?_
  refine tz_iconst (v := 1) dl_779 (by decide) ?_
  refine tz_iadd dl_780 ?_
  refine tz_iald dl_781 hx.1.1 hx.1.2 ?_
  refine tz_callV (As := [.int x1]) (st := [.int r]) (d2 := 100) dl_782 zl_L_123 zv_X12_back (c := 11) (by decide) rfl (by decide) rfl rfl rfl (Nat.le_of_ble_eq_true rfl) ⟨(Nat.le_of_ble_eq_true rfl), (Nat.le_of_ble_eq_true rfl)⟩ ⟨(Nat.le_of_ble_eq_true rfl), (Nat.le_of_ble_eq_true rfl)⟩ h2 (fun v1 I1 L1 P1 nx1 q => ?_)
  obtain ⟨rfl, r2, rfl, rfl, -, h3⟩ := q
  exact tz_icmp_eq (tgt := 813) dl_785 (by decide) (fun _ => kk _ _ _ h3) (fun q => absurd rfl q)
theorem ca_26 {bb n i : Nat} {xs : Nat → Int32} {I : zI} {L : zL} {P : zP} {x1 x2 x3 x4 x5 : Int32} (hx : lwS xs n i x1 x2 x3 x4 x5) (h : Rn I L P) (kk : ∀ I L P, Rn I L P → zT bb n xs 813 [some (.ref 1000002), some (.ref 0), some (.ref 160), some (.int (nI i))] [] I L P 205 205 69841) : zT bb n xs 790 [some (.ref 1000002), some (.ref 0), some (.ref 160), some (.int (nI i))] [] I L P 205 205 69841 := by
  obtain ⟨tt, ss, bq, cd, h⟩ := h
  refine tz_aload dl_790 rfl ?_
  refine tz_aload dl_791 rfl ?_
  refine tz_iload dl_792 rfl ?_
  refine tz_iconst (v := 1) dl_793 (by decide) ?_
  refine tz_iadd dl_794 ?_
  refine tz_iald dl_795 hx.1.1 hx.1.2 ?_
  refine tz_callV (As := [.int x1]) (st := []) (d2 := 100) dl_796 zl_L_124 zv_X11_about (c := 10) (by decide) rfl (by decide) rfl rfl rfl (Nat.le_of_ble_eq_true rfl) ⟨(Nat.le_of_ble_eq_true rfl), (Nat.le_of_ble_eq_true rfl)⟩ ⟨(Nat.le_of_ble_eq_true rfl), (Nat.le_of_ble_eq_true rfl)⟩ (q_about (d := 100) h (by decide)) (fun v0 I0 L0 P0 nx0 q => ?_)
  obtain ⟨rfl, r, rfl, hP1, h2⟩ := q
  refine tz_aload dl_799 rfl ?_
  refine tz_aload dl_800 rfl ?_
  refine tz_iload dl_801 rfl ?_
  refine tz_iconst (v := 1) dl_802 (by decide) ?_
  refine tz_iadd dl_803 ?_
  refine tz_iald dl_804 hx.1.1 hx.1.2 ?_
  refine tz_callV (As := [.int x1]) (st := [.int r]) (d2 := 100) dl_805 zl_L_127 zv_X12_about (c := 11) (by decide) rfl (by decide) rfl rfl rfl (Nat.le_of_ble_eq_true rfl) ⟨(Nat.le_of_ble_eq_true rfl), (Nat.le_of_ble_eq_true rfl)⟩ ⟨(Nat.le_of_ble_eq_true rfl), (Nat.le_of_ble_eq_true rfl)⟩ h2 (fun v1 I1 L1 P1 nx1 q => ?_)
  obtain ⟨rfl, r2, rfl, rfl, -, h3⟩ := q
  exact tz_icmp_eq (tgt := 813) dl_808 (by decide) (fun _ => kk _ _ _ h3) (fun q => absurd rfl q)
