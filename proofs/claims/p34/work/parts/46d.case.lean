/-! the law's cases -/
theorem lcb_0 {p : Program} {l : Launch} {e : Env} {s : State} {m : MethodId} {args : Array Value} {below : List Frame} {meth : Method} {c : Code} {D : va_G} {B : jm_E} {cells slots : Nat} {Q : State → Prop} {L : Nat} {xs : Nat → Int32} {i : Int32} {h : jm_H} {W : fw_W} (C : lw_C p s m args meth c D B L xs) (hi : lw_at L i) (hc : cells ≤ room_1.cells ∧ slots ≤ room_1.slots) (hg : fw_gh W fw_T h) (hl : li W) (next : ∀ (h2 : jm_H) (W2 : fw_W), fw_gh W2 fw_T h2 → li W2 → jm_W p l e room_1 s m args below meth c 4 D B cells slots Q 280 (lw_lv i) [] h2) : jm_W p l e room_1 s m args below meth c 4 D B cells slots Q 250 (lw_lv i) [] h := by
  refine lw_p C ld_250 rfl ?_
  refine lw_p C ld_251 rfl ?_
  refine lw_p C ld_252 rfl ?_
  refine lw_p C ld_253 rfl ?_
  refine lw_p C ld_254 rfl ?_
  refine lw_ld C ld_255 (lw_ix hi _ (by decide) (by decide)) ?_
  refine lw_p C ld_256 rfl ?_
  refine lw_p C ld_257 rfl ?_
  refine lw_p C ld_258 rfl ?_
  refine lw_p C ld_259 rfl ?_
  refine lw_ld C ld_260 (lw_ix hi _ (by decide) (by decide)) ?_
  refine lw_p C ld_261 rfl ?_
  refine lw_p C ld_262 rfl ?_
  refine lw_p C ld_263 rfl ?_
  refine lw_p C ld_264 rfl ?_
  refine lw_ld C ld_265 (lw_ix hi _ (by decide) (by decide)) ?_
  refine lw_p C ld_266 rfl ?_
  refine lw_p C ld_267 rfl ?_
  refine lw_p C ld_268 rfl ?_
  refine lw_p C ld_269 rfl ?_
  refine lw_ld C ld_270 (lw_ix hi _ (by decide) (by decide)) ?_
  refine lw_p C ld_271 rfl ?_
  refine lw_p C ld_272 rfl ?_
  refine lw_p C ld_273 rfl ?_
  refine lw_p C ld_274 rfl ?_
  refine lw_ld C ld_275 (lw_ix hi _ (by decide) (by decide)) ?_
  obtain ⟨fs, hca⟩ := lw_o1 hg
  refine lw_cv C (a := 352) (as := [.inl (xs (i + Int32.ofInt 1).toNatClampNeg).toInt, .inl (xs (i + Int32.ofInt 2).toNatClampNeg).toInt, .inl (xs (i + Int32.ofInt 3).toNatClampNeg).toInt, .inl (xs (i + Int32.ofInt 4).toNatClampNeg).toInt, .inl (xs (i + Int32.ofInt 5).toNatClampNeg).toInt]) (asc := [.int (xs (i + Int32.ofInt 1).toNatClampNeg), .int (xs (i + Int32.ofInt 2).toNatClampNeg), .int (xs (i + Int32.ofInt 3).toNatClampNeg), .int (xs (i + Int32.ofInt 4).toNatClampNeg), .int (xs (i + Int32.ofInt 5).toNatClampNeg)]) (r := []) lq_315 ln_315 lk_315 lz_315 rfl ld_276 (um_feed (lw_r _) (lw_r _) (lw_r _) (lw_r _) (lw_r _) hl) (by decide) (⟨⟨_, rfl, rfl⟩, ⟨⟨_, rfl, rfl⟩, ⟨⟨_, rfl, rfl⟩, ⟨⟨_, rfl, rfl⟩, ⟨⟨_, rfl, rfl⟩, trivial⟩⟩⟩⟩⟩) hg rfl (by decide) (Nat.le_of_ble_eq_true rfl) hca hc (fun v h2 a2 W2 o2 g2 p2 => ?_)
  obtain ⟨n2, rfl, -⟩ := lw_an p2.1 o2
  refine lw_p C ld_279 rfl ?_
  exact next h2 W2 g2 p2.2
theorem lca_0 {p : Program} {l : Launch} {e : Env} {s : State} {m : MethodId} {args : Array Value} {below : List Frame} {meth : Method} {c : Code} {D : va_G} {B : jm_E} {cells slots : Nat} {Q : State → Prop} {L : Nat} {xs : Nat → Int32} {i : Int32} {h : jm_H} {W : fw_W} (C : lw_C p s m args meth c D B L xs) (hi : lw_at L i) (hc : cells ≤ room_1.cells ∧ slots ≤ room_1.slots) (hg : fw_gh W fw_T h) (hl : li W) (next : ∀ (h2 : jm_H) (W2 : fw_W), fw_gh W2 fw_T h2 → li W2 → jm_W p l e room_1 s m args below meth c 4 D B cells slots Q 250 (lw_lv i) [] h2) : jm_W p l e room_1 s m args below meth c 4 D B cells slots Q 220 (lw_lv i) [] h := by
  refine lw_p C ld_220 rfl ?_
  refine lw_p C ld_221 rfl ?_
  refine lw_p C ld_222 rfl ?_
  refine lw_p C ld_223 rfl ?_
  refine lw_p C ld_224 rfl ?_
  refine lw_ld C ld_225 (lw_ix hi _ (by decide) (by decide)) ?_
  refine lw_p C ld_226 rfl ?_
  refine lw_p C ld_227 rfl ?_
  refine lw_p C ld_228 rfl ?_
  refine lw_p C ld_229 rfl ?_
  refine lw_ld C ld_230 (lw_ix hi _ (by decide) (by decide)) ?_
  refine lw_p C ld_231 rfl ?_
  refine lw_p C ld_232 rfl ?_
  refine lw_p C ld_233 rfl ?_
  refine lw_p C ld_234 rfl ?_
  refine lw_ld C ld_235 (lw_ix hi _ (by decide) (by decide)) ?_
  refine lw_p C ld_236 rfl ?_
  refine lw_p C ld_237 rfl ?_
  refine lw_p C ld_238 rfl ?_
  refine lw_p C ld_239 rfl ?_
  refine lw_ld C ld_240 (lw_ix hi _ (by decide) (by decide)) ?_
  refine lw_p C ld_241 rfl ?_
  refine lw_p C ld_242 rfl ?_
  refine lw_p C ld_243 rfl ?_
  refine lw_p C ld_244 rfl ?_
  refine lw_ld C ld_245 (lw_ix hi _ (by decide) (by decide)) ?_
  obtain ⟨fs, hca⟩ := lw_o0 hg
  refine lw_cv C (a := 0) (as := [.inl (xs (i + Int32.ofInt 1).toNatClampNeg).toInt, .inl (xs (i + Int32.ofInt 2).toNatClampNeg).toInt, .inl (xs (i + Int32.ofInt 3).toNatClampNeg).toInt, .inl (xs (i + Int32.ofInt 4).toNatClampNeg).toInt, .inl (xs (i + Int32.ofInt 5).toNatClampNeg).toInt]) (asc := [.int (xs (i + Int32.ofInt 1).toNatClampNeg), .int (xs (i + Int32.ofInt 2).toNatClampNeg), .int (xs (i + Int32.ofInt 3).toNatClampNeg), .int (xs (i + Int32.ofInt 4).toNatClampNeg), .int (xs (i + Int32.ofInt 5).toNatClampNeg)]) (r := []) lq_138 ln_138 lk_138 lz_138 rfl ld_246 (uk_feed (lw_r _) (lw_r _) (lw_r _) (lw_r _) (lw_r _) hl) (by decide) (⟨⟨_, rfl, rfl⟩, ⟨⟨_, rfl, rfl⟩, ⟨⟨_, rfl, rfl⟩, ⟨⟨_, rfl, rfl⟩, ⟨⟨_, rfl, rfl⟩, trivial⟩⟩⟩⟩⟩) hg rfl (by decide) (Nat.le_of_ble_eq_true rfl) hca hc (fun v h2 a2 W2 o2 g2 p2 => ?_)
  obtain ⟨n2, rfl, -⟩ := lw_an p2.1 o2
  refine lw_p C ld_249 rfl ?_
  exact next h2 W2 g2 p2.2
theorem lc_0 {p : Program} {l : Launch} {e : Env} {s : State} {m : MethodId} {args : Array Value} {below : List Frame} {meth : Method} {c : Code} {D : va_G} {B : jm_E} {cells slots : Nat} {Q : State → Prop} {L : Nat} {xs : Nat → Int32} {i : Int32} {h : jm_H} {W : fw_W} (C : lw_C p s m args meth c D B L xs) (hi : lw_at L i) (hc : cells ≤ room_1.cells ∧ slots ≤ room_1.slots) (hg : fw_gh W fw_T h) (hl : li W) (next : ∀ (h2 : jm_H) (W2 : fw_W), fw_gh W2 fw_T h2 → li W2 → jm_W p l e room_1 s m args below meth c 4 D B cells slots Q 1417 (lw_lv i) [] h2) : jm_W p l e room_1 s m args below meth c 4 D B cells slots Q 220 (lw_lv i) [] h := lca_0 C hi hc hg hl (fun h2 W2 g2 l2 => lcb_0 C hi hc g2 l2 (fun h3 W3 g3 l3 => lw_p C ld_280 rfl (next h3 W3 g3 l3)))
theorem lcb_1 {p : Program} {l : Launch} {e : Env} {s : State} {m : MethodId} {args : Array Value} {below : List Frame} {meth : Method} {c : Code} {D : va_G} {B : jm_E} {cells slots : Nat} {Q : State → Prop} {L : Nat} {xs : Nat → Int32} {i : Int32} {h : jm_H} {W : fw_W} (C : lw_C p s m args meth c D B L xs) (hi : lw_at L i) (hc : cells ≤ room_1.cells ∧ slots ≤ room_1.slots) (hg : fw_gh W fw_T h) (hl : li W) (next : ∀ (h2 : jm_H) (W2 : fw_W), fw_gh W2 fw_T h2 → li W2 → jm_W p l e room_1 s m args below meth c 4 D B cells slots Q 303 (lw_lv i) [] h2) : jm_W p l e room_1 s m args below meth c 4 D B cells slots Q 293 (lw_lv i) [] h := by
  refine lw_p C ld_293 rfl ?_
  refine lw_p C ld_294 rfl ?_
  refine lw_p C ld_295 rfl ?_
  refine lw_p C ld_296 rfl ?_
  refine lw_p C ld_297 rfl ?_
  refine lw_ld C ld_298 (lw_ix hi _ (by decide) (by decide)) ?_
  obtain ⟨fs, hca⟩ := lw_o1 hg
  refine lw_cv C (a := 352) (as := [.inl (xs (i + Int32.ofInt 1).toNatClampNeg).toInt]) (asc := [.int (xs (i + Int32.ofInt 1).toNatClampNeg)]) (r := []) lq_316 ln_316 lk_316 lz_316 rfl ld_299 (um_end (lw_r _) hl) (by decide) (⟨⟨_, rfl, rfl⟩, trivial⟩) hg rfl (by decide) (Nat.le_of_ble_eq_true rfl) hca hc (fun v h2 a2 W2 o2 g2 p2 => ?_)
  obtain ⟨n2, rfl, -⟩ := lw_an p2.1 o2
  refine lw_p C ld_302 rfl ?_
  exact next h2 W2 g2 p2.2
theorem lca_1 {p : Program} {l : Launch} {e : Env} {s : State} {m : MethodId} {args : Array Value} {below : List Frame} {meth : Method} {c : Code} {D : va_G} {B : jm_E} {cells slots : Nat} {Q : State → Prop} {L : Nat} {xs : Nat → Int32} {i : Int32} {h : jm_H} {W : fw_W} (C : lw_C p s m args meth c D B L xs) (hi : lw_at L i) (hc : cells ≤ room_1.cells ∧ slots ≤ room_1.slots) (hg : fw_gh W fw_T h) (hl : li W) (next : ∀ (h2 : jm_H) (W2 : fw_W), fw_gh W2 fw_T h2 → li W2 → jm_W p l e room_1 s m args below meth c 4 D B cells slots Q 293 (lw_lv i) [] h2) : jm_W p l e room_1 s m args below meth c 4 D B cells slots Q 283 (lw_lv i) [] h := by
  refine lw_p C ld_283 rfl ?_
  refine lw_p C ld_284 rfl ?_
  refine lw_p C ld_285 rfl ?_
  refine lw_p C ld_286 rfl ?_
  refine lw_p C ld_287 rfl ?_
  refine lw_ld C ld_288 (lw_ix hi _ (by decide) (by decide)) ?_
  obtain ⟨fs, hca⟩ := lw_o0 hg
  refine lw_cv C (a := 0) (as := [.inl (xs (i + Int32.ofInt 1).toNatClampNeg).toInt]) (asc := [.int (xs (i + Int32.ofInt 1).toNatClampNeg)]) (r := []) lq_139 ln_139 lk_139 lz_139 rfl ld_289 (uk_end (lw_r _) hl) (by decide) (⟨⟨_, rfl, rfl⟩, trivial⟩) hg rfl (by decide) (Nat.le_of_ble_eq_true rfl) hca hc (fun v h2 a2 W2 o2 g2 p2 => ?_)
  obtain ⟨n2, rfl, -⟩ := lw_an p2.1 o2
  refine lw_p C ld_292 rfl ?_
  exact next h2 W2 g2 p2.2
theorem lc_1 {p : Program} {l : Launch} {e : Env} {s : State} {m : MethodId} {args : Array Value} {below : List Frame} {meth : Method} {c : Code} {D : va_G} {B : jm_E} {cells slots : Nat} {Q : State → Prop} {L : Nat} {xs : Nat → Int32} {i : Int32} {h : jm_H} {W : fw_W} (C : lw_C p s m args meth c D B L xs) (hi : lw_at L i) (hc : cells ≤ room_1.cells ∧ slots ≤ room_1.slots) (hg : fw_gh W fw_T h) (hl : li W) (next : ∀ (h2 : jm_H) (W2 : fw_W), fw_gh W2 fw_T h2 → li W2 → jm_W p l e room_1 s m args below meth c 4 D B cells slots Q 1417 (lw_lv i) [] h2) : jm_W p l e room_1 s m args below meth c 4 D B cells slots Q 283 (lw_lv i) [] h := lca_1 C hi hc hg hl (fun h2 W2 g2 l2 => lcb_1 C hi hc g2 l2 (fun h3 W3 g3 l3 => lw_p C ld_303 rfl (next h3 W3 g3 l3)))
theorem lcb_2 {p : Program} {l : Launch} {e : Env} {s : State} {m : MethodId} {args : Array Value} {below : List Frame} {meth : Method} {c : Code} {D : va_G} {B : jm_E} {cells slots : Nat} {Q : State → Prop} {L : Nat} {xs : Nat → Int32} {i : Int32} {h : jm_H} {W : fw_W} (C : lw_C p s m args meth c D B L xs) (hi : lw_at L i) (hc : cells ≤ room_1.cells ∧ slots ≤ room_1.slots) (hg : fw_gh W fw_T h) (hl : li W) (next : ∀ (h2 : jm_H) (W2 : fw_W), fw_gh W2 fw_T h2 → li W2 → jm_W p l e room_1 s m args below meth c 4 D B cells slots Q 316 (lw_lv i) [] h2) : jm_W p l e room_1 s m args below meth c 4 D B cells slots Q 311 (lw_lv i) [] h := by
  refine lw_p C ld_311 rfl ?_
  obtain ⟨fs, hca⟩ := lw_o1 hg
  refine lw_cv C (a := 352) (as := []) (asc := []) (r := []) lq_190 ln_190 lk_190 lz_190 rfl ld_312 (um_town  hl) (by decide) (trivial) hg rfl (by decide) (Nat.le_of_ble_eq_true rfl) hca hc (fun v h2 a2 W2 o2 g2 p2 => ?_)
  obtain ⟨n2, rfl, -⟩ := lw_an p2.1 o2
  refine lw_p C ld_315 rfl ?_
  exact next h2 W2 g2 p2.2
theorem lca_2 {p : Program} {l : Launch} {e : Env} {s : State} {m : MethodId} {args : Array Value} {below : List Frame} {meth : Method} {c : Code} {D : va_G} {B : jm_E} {cells slots : Nat} {Q : State → Prop} {L : Nat} {xs : Nat → Int32} {i : Int32} {h : jm_H} {W : fw_W} (C : lw_C p s m args meth c D B L xs) (hi : lw_at L i) (hc : cells ≤ room_1.cells ∧ slots ≤ room_1.slots) (hg : fw_gh W fw_T h) (hl : li W) (next : ∀ (h2 : jm_H) (W2 : fw_W), fw_gh W2 fw_T h2 → li W2 → jm_W p l e room_1 s m args below meth c 4 D B cells slots Q 311 (lw_lv i) [] h2) : jm_W p l e room_1 s m args below meth c 4 D B cells slots Q 306 (lw_lv i) [] h := by
  refine lw_p C ld_306 rfl ?_
  obtain ⟨fs, hca⟩ := lw_o0 hg
  refine lw_cv C (a := 0) (as := []) (asc := []) (r := []) lq_140 ln_140 lk_140 lz_140 rfl ld_307 (uk_town  hl) (by decide) (trivial) hg rfl (by decide) (Nat.le_of_ble_eq_true rfl) hca hc (fun v h2 a2 W2 o2 g2 p2 => ?_)
  obtain ⟨n2, rfl, -⟩ := lw_an p2.1 o2
  refine lw_p C ld_310 rfl ?_
  exact next h2 W2 g2 p2.2
theorem lc_2 {p : Program} {l : Launch} {e : Env} {s : State} {m : MethodId} {args : Array Value} {below : List Frame} {meth : Method} {c : Code} {D : va_G} {B : jm_E} {cells slots : Nat} {Q : State → Prop} {L : Nat} {xs : Nat → Int32} {i : Int32} {h : jm_H} {W : fw_W} (C : lw_C p s m args meth c D B L xs) (hi : lw_at L i) (hc : cells ≤ room_1.cells ∧ slots ≤ room_1.slots) (hg : fw_gh W fw_T h) (hl : li W) (next : ∀ (h2 : jm_H) (W2 : fw_W), fw_gh W2 fw_T h2 → li W2 → jm_W p l e room_1 s m args below meth c 4 D B cells slots Q 1417 (lw_lv i) [] h2) : jm_W p l e room_1 s m args below meth c 4 D B cells slots Q 306 (lw_lv i) [] h := lca_2 C hi hc hg hl (fun h2 W2 g2 l2 => lcb_2 C hi hc g2 l2 (fun h3 W3 g3 l3 => lw_p C ld_316 rfl (next h3 W3 g3 l3)))
theorem lcb_3 {p : Program} {l : Launch} {e : Env} {s : State} {m : MethodId} {args : Array Value} {below : List Frame} {meth : Method} {c : Code} {D : va_G} {B : jm_E} {cells slots : Nat} {Q : State → Prop} {L : Nat} {xs : Nat → Int32} {i : Int32} {h : jm_H} {W : fw_W} (C : lw_C p s m args meth c D B L xs) (hi : lw_at L i) (hc : cells ≤ room_1.cells ∧ slots ≤ room_1.slots) (hg : fw_gh W fw_T h) (hl : li W) (next : ∀ (h2 : jm_H) (W2 : fw_W), fw_gh W2 fw_T h2 → li W2 → jm_W p l e room_1 s m args below meth c 4 D B cells slots Q 339 (lw_lv i) [] h2) : jm_W p l e room_1 s m args below meth c 4 D B cells slots Q 329 (lw_lv i) [] h := by
  refine lw_p C ld_329 rfl ?_
  refine lw_p C ld_330 rfl ?_
  refine lw_p C ld_331 rfl ?_
  refine lw_p C ld_332 rfl ?_
  refine lw_p C ld_333 rfl ?_
  refine lw_ld C ld_334 (lw_ix hi _ (by decide) (by decide)) ?_
  obtain ⟨fs, hca⟩ := lw_o1 hg
  refine lw_cv C (a := 352) (as := [.inl (xs (i + Int32.ofInt 1).toNatClampNeg).toInt]) (asc := [.int (xs (i + Int32.ofInt 1).toNatClampNeg)]) (r := []) lq_211 ln_211 lk_211 lz_211 rfl ld_335 (um_fault (lw_r _) hl) (by decide) (⟨⟨_, rfl, rfl⟩, trivial⟩) hg rfl (by decide) (Nat.le_of_ble_eq_true rfl) hca hc (fun v h2 a2 W2 o2 g2 p2 => ?_)
  obtain ⟨n2, rfl, -⟩ := lw_an p2.1 o2
  refine lw_p C ld_338 rfl ?_
  exact next h2 W2 g2 p2.2
theorem lca_3 {p : Program} {l : Launch} {e : Env} {s : State} {m : MethodId} {args : Array Value} {below : List Frame} {meth : Method} {c : Code} {D : va_G} {B : jm_E} {cells slots : Nat} {Q : State → Prop} {L : Nat} {xs : Nat → Int32} {i : Int32} {h : jm_H} {W : fw_W} (C : lw_C p s m args meth c D B L xs) (hi : lw_at L i) (hc : cells ≤ room_1.cells ∧ slots ≤ room_1.slots) (hg : fw_gh W fw_T h) (hl : li W) (next : ∀ (h2 : jm_H) (W2 : fw_W), fw_gh W2 fw_T h2 → li W2 → jm_W p l e room_1 s m args below meth c 4 D B cells slots Q 329 (lw_lv i) [] h2) : jm_W p l e room_1 s m args below meth c 4 D B cells slots Q 319 (lw_lv i) [] h := by
  refine lw_p C ld_319 rfl ?_
  refine lw_p C ld_320 rfl ?_
  refine lw_p C ld_321 rfl ?_
  refine lw_p C ld_322 rfl ?_
  refine lw_p C ld_323 rfl ?_
  refine lw_ld C ld_324 (lw_ix hi _ (by decide) (by decide)) ?_
  obtain ⟨fs, hca⟩ := lw_o0 hg
  refine lw_cv C (a := 0) (as := [.inl (xs (i + Int32.ofInt 1).toNatClampNeg).toInt]) (asc := [.int (xs (i + Int32.ofInt 1).toNatClampNeg)]) (r := []) lq_142 ln_142 lk_142 lz_142 rfl ld_325 (uk_fault (lw_r _) hl) (by decide) (⟨⟨_, rfl, rfl⟩, trivial⟩) hg rfl (by decide) (Nat.le_of_ble_eq_true rfl) hca hc (fun v h2 a2 W2 o2 g2 p2 => ?_)
  obtain ⟨n2, rfl, -⟩ := lw_an p2.1 o2
  refine lw_p C ld_328 rfl ?_
  exact next h2 W2 g2 p2.2
theorem lc_3 {p : Program} {l : Launch} {e : Env} {s : State} {m : MethodId} {args : Array Value} {below : List Frame} {meth : Method} {c : Code} {D : va_G} {B : jm_E} {cells slots : Nat} {Q : State → Prop} {L : Nat} {xs : Nat → Int32} {i : Int32} {h : jm_H} {W : fw_W} (C : lw_C p s m args meth c D B L xs) (hi : lw_at L i) (hc : cells ≤ room_1.cells ∧ slots ≤ room_1.slots) (hg : fw_gh W fw_T h) (hl : li W) (next : ∀ (h2 : jm_H) (W2 : fw_W), fw_gh W2 fw_T h2 → li W2 → jm_W p l e room_1 s m args below meth c 4 D B cells slots Q 1417 (lw_lv i) [] h2) : jm_W p l e room_1 s m args below meth c 4 D B cells slots Q 319 (lw_lv i) [] h := lca_3 C hi hc hg hl (fun h2 W2 g2 l2 => lcb_3 C hi hc g2 l2 (fun h3 W3 g3 l3 => lw_p C ld_339 rfl (next h3 W3 g3 l3)))
theorem lcb_4 {p : Program} {l : Launch} {e : Env} {s : State} {m : MethodId} {args : Array Value} {below : List Frame} {meth : Method} {c : Code} {D : va_G} {B : jm_E} {cells slots : Nat} {Q : State → Prop} {L : Nat} {xs : Nat → Int32} {i : Int32} {h : jm_H} {W : fw_W} (C : lw_C p s m args meth c D B L xs) (hi : lw_at L i) (hc : cells ≤ room_1.cells ∧ slots ≤ room_1.slots) (hg : fw_gh W fw_T h) (hl : li W) (next : ∀ (h2 : jm_H) (W2 : fw_W), fw_gh W2 fw_T h2 → li W2 → jm_W p l e room_1 s m args below meth c 4 D B cells slots Q 372 (lw_lv i) [] h2) : jm_W p l e room_1 s m args below meth c 4 D B cells slots Q 357 (lw_lv i) [] h := by
  refine lw_p C ld_357 rfl ?_
  refine lw_p C ld_358 rfl ?_
  refine lw_p C ld_359 rfl ?_
  refine lw_p C ld_360 rfl ?_
  refine lw_p C ld_361 rfl ?_
  refine lw_ld C ld_362 (lw_ix hi _ (by decide) (by decide)) ?_
  refine lw_p C ld_363 rfl ?_
  refine lw_p C ld_364 rfl ?_
  refine lw_p C ld_365 rfl ?_
  refine lw_p C ld_366 rfl ?_
  refine lw_ld C ld_367 (lw_ix hi _ (by decide) (by decide)) ?_
  obtain ⟨fs, hca⟩ := lw_o1 hg
  refine lw_cv C (a := 352) (as := [.inl (xs (i + Int32.ofInt 1).toNatClampNeg).toInt, .inl (xs (i + Int32.ofInt 2).toNatClampNeg).toInt]) (asc := [.int (xs (i + Int32.ofInt 1).toNatClampNeg), .int (xs (i + Int32.ofInt 2).toNatClampNeg)]) (r := []) lq_212 ln_212 lk_212 lz_212 rfl ld_368 (um_house (lw_r _) (lw_r _) hl) (by decide) (⟨⟨_, rfl, rfl⟩, ⟨⟨_, rfl, rfl⟩, trivial⟩⟩) hg rfl (by decide) (Nat.le_of_ble_eq_true rfl) hca hc (fun v h2 a2 W2 o2 g2 p2 => ?_)
  obtain ⟨n2, rfl, -⟩ := lw_an p2.1 o2
  refine lw_p C ld_371 rfl ?_
  exact next h2 W2 g2 p2.2
theorem lca_4 {p : Program} {l : Launch} {e : Env} {s : State} {m : MethodId} {args : Array Value} {below : List Frame} {meth : Method} {c : Code} {D : va_G} {B : jm_E} {cells slots : Nat} {Q : State → Prop} {L : Nat} {xs : Nat → Int32} {i : Int32} {h : jm_H} {W : fw_W} (C : lw_C p s m args meth c D B L xs) (hi : lw_at L i) (hc : cells ≤ room_1.cells ∧ slots ≤ room_1.slots) (hg : fw_gh W fw_T h) (hl : li W) (next : ∀ (h2 : jm_H) (W2 : fw_W), fw_gh W2 fw_T h2 → li W2 → jm_W p l e room_1 s m args below meth c 4 D B cells slots Q 357 (lw_lv i) [] h2) : jm_W p l e room_1 s m args below meth c 4 D B cells slots Q 342 (lw_lv i) [] h := by
  refine lw_p C ld_342 rfl ?_
  refine lw_p C ld_343 rfl ?_
  refine lw_p C ld_344 rfl ?_
  refine lw_p C ld_345 rfl ?_
  refine lw_p C ld_346 rfl ?_
  refine lw_ld C ld_347 (lw_ix hi _ (by decide) (by decide)) ?_
  refine lw_p C ld_348 rfl ?_
  refine lw_p C ld_349 rfl ?_
  refine lw_p C ld_350 rfl ?_
  refine lw_p C ld_351 rfl ?_
  refine lw_ld C ld_352 (lw_ix hi _ (by decide) (by decide)) ?_
  obtain ⟨fs, hca⟩ := lw_o0 hg
  refine lw_cv C (a := 0) (as := [.inl (xs (i + Int32.ofInt 1).toNatClampNeg).toInt, .inl (xs (i + Int32.ofInt 2).toNatClampNeg).toInt]) (asc := [.int (xs (i + Int32.ofInt 1).toNatClampNeg), .int (xs (i + Int32.ofInt 2).toNatClampNeg)]) (r := []) lq_143 ln_143 lk_143 lz_143 rfl ld_353 (uk_house (lw_r _) (lw_r _) hl) (by decide) (⟨⟨_, rfl, rfl⟩, ⟨⟨_, rfl, rfl⟩, trivial⟩⟩) hg rfl (by decide) (Nat.le_of_ble_eq_true rfl) hca hc (fun v h2 a2 W2 o2 g2 p2 => ?_)
  obtain ⟨n2, rfl, -⟩ := lw_an p2.1 o2
  refine lw_p C ld_356 rfl ?_
  exact next h2 W2 g2 p2.2
theorem lc_4 {p : Program} {l : Launch} {e : Env} {s : State} {m : MethodId} {args : Array Value} {below : List Frame} {meth : Method} {c : Code} {D : va_G} {B : jm_E} {cells slots : Nat} {Q : State → Prop} {L : Nat} {xs : Nat → Int32} {i : Int32} {h : jm_H} {W : fw_W} (C : lw_C p s m args meth c D B L xs) (hi : lw_at L i) (hc : cells ≤ room_1.cells ∧ slots ≤ room_1.slots) (hg : fw_gh W fw_T h) (hl : li W) (next : ∀ (h2 : jm_H) (W2 : fw_W), fw_gh W2 fw_T h2 → li W2 → jm_W p l e room_1 s m args below meth c 4 D B cells slots Q 1417 (lw_lv i) [] h2) : jm_W p l e room_1 s m args below meth c 4 D B cells slots Q 342 (lw_lv i) [] h := lca_4 C hi hc hg hl (fun h2 W2 g2 l2 => lcb_4 C hi hc g2 l2 (fun h3 W3 g3 l3 => lw_p C ld_372 rfl (next h3 W3 g3 l3)))
theorem lcb_5 {p : Program} {l : Launch} {e : Env} {s : State} {m : MethodId} {args : Array Value} {below : List Frame} {meth : Method} {c : Code} {D : va_G} {B : jm_E} {cells slots : Nat} {Q : State → Prop} {L : Nat} {xs : Nat → Int32} {i : Int32} {h : jm_H} {W : fw_W} (C : lw_C p s m args meth c D B L xs) (hi : lw_at L i) (hc : cells ≤ room_1.cells ∧ slots ≤ room_1.slots) (hg : fw_gh W fw_T h) (hl : li W) (next : ∀ (h2 : jm_H) (W2 : fw_W), fw_gh W2 fw_T h2 → li W2 → jm_W p l e room_1 s m args below meth c 4 D B cells slots Q 405 (lw_lv i) [] h2) : jm_W p l e room_1 s m args below meth c 4 D B cells slots Q 390 (lw_lv i) [] h := by
  refine lw_p C ld_390 rfl ?_
  refine lw_p C ld_391 rfl ?_
  refine lw_p C ld_392 rfl ?_
  refine lw_p C ld_393 rfl ?_
  refine lw_p C ld_394 rfl ?_
  refine lw_ld C ld_395 (lw_ix hi _ (by decide) (by decide)) ?_
  refine lw_p C ld_396 rfl ?_
  refine lw_p C ld_397 rfl ?_
  refine lw_p C ld_398 rfl ?_
  refine lw_p C ld_399 rfl ?_
  refine lw_ld C ld_400 (lw_ix hi _ (by decide) (by decide)) ?_
  obtain ⟨fs, hca⟩ := lw_o1 hg
  refine lw_cv C (a := 352) (as := [.inl (xs (i + Int32.ofInt 1).toNatClampNeg).toInt, .inl (xs (i + Int32.ofInt 2).toNatClampNeg).toInt]) (asc := [.int (xs (i + Int32.ofInt 1).toNatClampNeg), .int (xs (i + Int32.ofInt 2).toNatClampNeg)]) (r := []) lq_221 ln_221 lk_221 lz_221 rfl ld_401 (um_way (lw_r _) (lw_r _) hl) (by decide) (⟨⟨_, rfl, rfl⟩, ⟨⟨_, rfl, rfl⟩, trivial⟩⟩) hg rfl (by decide) (Nat.le_of_ble_eq_true rfl) hca hc (fun v h2 a2 W2 o2 g2 p2 => ?_)
  obtain ⟨n2, rfl, -⟩ := lw_an p2.1 o2
  refine lw_p C ld_404 rfl ?_
  exact next h2 W2 g2 p2.2
theorem lca_5 {p : Program} {l : Launch} {e : Env} {s : State} {m : MethodId} {args : Array Value} {below : List Frame} {meth : Method} {c : Code} {D : va_G} {B : jm_E} {cells slots : Nat} {Q : State → Prop} {L : Nat} {xs : Nat → Int32} {i : Int32} {h : jm_H} {W : fw_W} (C : lw_C p s m args meth c D B L xs) (hi : lw_at L i) (hc : cells ≤ room_1.cells ∧ slots ≤ room_1.slots) (hg : fw_gh W fw_T h) (hl : li W) (next : ∀ (h2 : jm_H) (W2 : fw_W), fw_gh W2 fw_T h2 → li W2 → jm_W p l e room_1 s m args below meth c 4 D B cells slots Q 390 (lw_lv i) [] h2) : jm_W p l e room_1 s m args below meth c 4 D B cells slots Q 375 (lw_lv i) [] h := by
  refine lw_p C ld_375 rfl ?_
  refine lw_p C ld_376 rfl ?_
  refine lw_p C ld_377 rfl ?_
  refine lw_p C ld_378 rfl ?_
  refine lw_p C ld_379 rfl ?_
  refine lw_ld C ld_380 (lw_ix hi _ (by decide) (by decide)) ?_
  refine lw_p C ld_381 rfl ?_
  refine lw_p C ld_382 rfl ?_
  refine lw_p C ld_383 rfl ?_
  refine lw_p C ld_384 rfl ?_
  refine lw_ld C ld_385 (lw_ix hi _ (by decide) (by decide)) ?_
  obtain ⟨fs, hca⟩ := lw_o0 hg
  refine lw_cv C (a := 0) (as := [.inl (xs (i + Int32.ofInt 1).toNatClampNeg).toInt, .inl (xs (i + Int32.ofInt 2).toNatClampNeg).toInt]) (asc := [.int (xs (i + Int32.ofInt 1).toNatClampNeg), .int (xs (i + Int32.ofInt 2).toNatClampNeg)]) (r := []) lq_144 ln_144 lk_144 lz_144 rfl ld_386 (uk_way (lw_r _) (lw_r _) hl) (by decide) (⟨⟨_, rfl, rfl⟩, ⟨⟨_, rfl, rfl⟩, trivial⟩⟩) hg rfl (by decide) (Nat.le_of_ble_eq_true rfl) hca hc (fun v h2 a2 W2 o2 g2 p2 => ?_)
  obtain ⟨n2, rfl, -⟩ := lw_an p2.1 o2
  refine lw_p C ld_389 rfl ?_
  exact next h2 W2 g2 p2.2
theorem lc_5 {p : Program} {l : Launch} {e : Env} {s : State} {m : MethodId} {args : Array Value} {below : List Frame} {meth : Method} {c : Code} {D : va_G} {B : jm_E} {cells slots : Nat} {Q : State → Prop} {L : Nat} {xs : Nat → Int32} {i : Int32} {h : jm_H} {W : fw_W} (C : lw_C p s m args meth c D B L xs) (hi : lw_at L i) (hc : cells ≤ room_1.cells ∧ slots ≤ room_1.slots) (hg : fw_gh W fw_T h) (hl : li W) (next : ∀ (h2 : jm_H) (W2 : fw_W), fw_gh W2 fw_T h2 → li W2 → jm_W p l e room_1 s m args below meth c 4 D B cells slots Q 1417 (lw_lv i) [] h2) : jm_W p l e room_1 s m args below meth c 4 D B cells slots Q 375 (lw_lv i) [] h := lca_5 C hi hc hg hl (fun h2 W2 g2 l2 => lcb_5 C hi hc g2 l2 (fun h3 W3 g3 l3 => lw_p C ld_405 rfl (next h3 W3 g3 l3)))
theorem lcb_6 {p : Program} {l : Launch} {e : Env} {s : State} {m : MethodId} {args : Array Value} {below : List Frame} {meth : Method} {c : Code} {D : va_G} {B : jm_E} {cells slots : Nat} {Q : State → Prop} {L : Nat} {xs : Nat → Int32} {i : Int32} {h : jm_H} {W : fw_W} (C : lw_C p s m args meth c D B L xs) (hi : lw_at L i) (hc : cells ≤ room_1.cells ∧ slots ≤ room_1.slots) (hg : fw_gh W fw_T h) (hl : li W) (next : ∀ (h2 : jm_H) (W2 : fw_W), fw_gh W2 fw_T h2 → li W2 → jm_W p l e room_1 s m args below meth c 4 D B cells slots Q 428 (lw_lv i) [] h2) : jm_W p l e room_1 s m args below meth c 4 D B cells slots Q 418 (lw_lv i) [] h := by
  refine lw_p C ld_418 rfl ?_
  refine lw_p C ld_419 rfl ?_
  refine lw_p C ld_420 rfl ?_
  refine lw_p C ld_421 rfl ?_
  refine lw_p C ld_422 rfl ?_
  refine lw_ld C ld_423 (lw_ix hi _ (by decide) (by decide)) ?_
  obtain ⟨fs, hca⟩ := lw_o1 hg
  refine lw_cv C (a := 352) (as := [.inl (xs (i + Int32.ofInt 1).toNatClampNeg).toInt]) (asc := [.int (xs (i + Int32.ofInt 1).toNatClampNeg)]) (r := []) lq_226 ln_226 lk_226 lz_226 rfl ld_424 (um_far (lw_r _) hl) (by decide) (⟨⟨_, rfl, rfl⟩, trivial⟩) hg rfl (by decide) (Nat.le_of_ble_eq_true rfl) hca hc (fun v h2 a2 W2 o2 g2 p2 => ?_)
  obtain ⟨n2, rfl, -⟩ := lw_an p2.1 o2
  refine lw_p C ld_427 rfl ?_
  exact next h2 W2 g2 p2.2
theorem lca_6 {p : Program} {l : Launch} {e : Env} {s : State} {m : MethodId} {args : Array Value} {below : List Frame} {meth : Method} {c : Code} {D : va_G} {B : jm_E} {cells slots : Nat} {Q : State → Prop} {L : Nat} {xs : Nat → Int32} {i : Int32} {h : jm_H} {W : fw_W} (C : lw_C p s m args meth c D B L xs) (hi : lw_at L i) (hc : cells ≤ room_1.cells ∧ slots ≤ room_1.slots) (hg : fw_gh W fw_T h) (hl : li W) (next : ∀ (h2 : jm_H) (W2 : fw_W), fw_gh W2 fw_T h2 → li W2 → jm_W p l e room_1 s m args below meth c 4 D B cells slots Q 418 (lw_lv i) [] h2) : jm_W p l e room_1 s m args below meth c 4 D B cells slots Q 408 (lw_lv i) [] h := by
  refine lw_p C ld_408 rfl ?_
  refine lw_p C ld_409 rfl ?_
  refine lw_p C ld_410 rfl ?_
  refine lw_p C ld_411 rfl ?_
  refine lw_p C ld_412 rfl ?_
  refine lw_ld C ld_413 (lw_ix hi _ (by decide) (by decide)) ?_
  obtain ⟨fs, hca⟩ := lw_o0 hg
  refine lw_cv C (a := 0) (as := [.inl (xs (i + Int32.ofInt 1).toNatClampNeg).toInt]) (asc := [.int (xs (i + Int32.ofInt 1).toNatClampNeg)]) (r := []) lq_145 ln_145 lk_145 lz_145 rfl ld_414 (uk_far (lw_r _) hl) (by decide) (⟨⟨_, rfl, rfl⟩, trivial⟩) hg rfl (by decide) (Nat.le_of_ble_eq_true rfl) hca hc (fun v h2 a2 W2 o2 g2 p2 => ?_)
  obtain ⟨n2, rfl, -⟩ := lw_an p2.1 o2
  refine lw_p C ld_417 rfl ?_
  exact next h2 W2 g2 p2.2
theorem lc_6 {p : Program} {l : Launch} {e : Env} {s : State} {m : MethodId} {args : Array Value} {below : List Frame} {meth : Method} {c : Code} {D : va_G} {B : jm_E} {cells slots : Nat} {Q : State → Prop} {L : Nat} {xs : Nat → Int32} {i : Int32} {h : jm_H} {W : fw_W} (C : lw_C p s m args meth c D B L xs) (hi : lw_at L i) (hc : cells ≤ room_1.cells ∧ slots ≤ room_1.slots) (hg : fw_gh W fw_T h) (hl : li W) (next : ∀ (h2 : jm_H) (W2 : fw_W), fw_gh W2 fw_T h2 → li W2 → jm_W p l e room_1 s m args below meth c 4 D B cells slots Q 1417 (lw_lv i) [] h2) : jm_W p l e room_1 s m args below meth c 4 D B cells slots Q 408 (lw_lv i) [] h := lca_6 C hi hc hg hl (fun h2 W2 g2 l2 => lcb_6 C hi hc g2 l2 (fun h3 W3 g3 l3 => lw_p C ld_428 rfl (next h3 W3 g3 l3)))
theorem lcb_7 {p : Program} {l : Launch} {e : Env} {s : State} {m : MethodId} {args : Array Value} {below : List Frame} {meth : Method} {c : Code} {D : va_G} {B : jm_E} {cells slots : Nat} {Q : State → Prop} {L : Nat} {xs : Nat → Int32} {i : Int32} {h : jm_H} {W : fw_W} (C : lw_C p s m args meth c D B L xs) (hi : lw_at L i) (hc : cells ≤ room_1.cells ∧ slots ≤ room_1.slots) (hg : fw_gh W fw_T h) (hl : li W) (next : ∀ (h2 : jm_H) (W2 : fw_W), fw_gh W2 fw_T h2 → li W2 → jm_W p l e room_1 s m args below meth c 4 D B cells slots Q 451 (lw_lv i) [] h2) : jm_W p l e room_1 s m args below meth c 4 D B cells slots Q 441 (lw_lv i) [] h := by
  refine lw_p C ld_441 rfl ?_
  refine lw_p C ld_442 rfl ?_
  refine lw_p C ld_443 rfl ?_
  refine lw_p C ld_444 rfl ?_
  refine lw_p C ld_445 rfl ?_
  refine lw_ld C ld_446 (lw_ix hi _ (by decide) (by decide)) ?_
  obtain ⟨fs, hca⟩ := lw_o1 hg
  refine lw_cv C (a := 352) (as := [.inl (xs (i + Int32.ofInt 1).toNatClampNeg).toInt]) (asc := [.int (xs (i + Int32.ofInt 1).toNatClampNeg)]) (r := []) lq_228 ln_228 lk_228 lz_228 rfl ld_447 (um_farthest (lw_r _) hl) (by decide) (⟨⟨_, rfl, rfl⟩, trivial⟩) hg rfl (by decide) (Nat.le_of_ble_eq_true rfl) hca hc (fun v h2 a2 W2 o2 g2 p2 => ?_)
  obtain ⟨n2, rfl, -⟩ := lw_an p2.1 o2
  refine lw_p C ld_450 rfl ?_
  exact next h2 W2 g2 p2.2
theorem lca_7 {p : Program} {l : Launch} {e : Env} {s : State} {m : MethodId} {args : Array Value} {below : List Frame} {meth : Method} {c : Code} {D : va_G} {B : jm_E} {cells slots : Nat} {Q : State → Prop} {L : Nat} {xs : Nat → Int32} {i : Int32} {h : jm_H} {W : fw_W} (C : lw_C p s m args meth c D B L xs) (hi : lw_at L i) (hc : cells ≤ room_1.cells ∧ slots ≤ room_1.slots) (hg : fw_gh W fw_T h) (hl : li W) (next : ∀ (h2 : jm_H) (W2 : fw_W), fw_gh W2 fw_T h2 → li W2 → jm_W p l e room_1 s m args below meth c 4 D B cells slots Q 441 (lw_lv i) [] h2) : jm_W p l e room_1 s m args below meth c 4 D B cells slots Q 431 (lw_lv i) [] h := by
  refine lw_p C ld_431 rfl ?_
  refine lw_p C ld_432 rfl ?_
  refine lw_p C ld_433 rfl ?_
  refine lw_p C ld_434 rfl ?_
  refine lw_p C ld_435 rfl ?_
  refine lw_ld C ld_436 (lw_ix hi _ (by decide) (by decide)) ?_
  obtain ⟨fs, hca⟩ := lw_o0 hg
  refine lw_cv C (a := 0) (as := [.inl (xs (i + Int32.ofInt 1).toNatClampNeg).toInt]) (asc := [.int (xs (i + Int32.ofInt 1).toNatClampNeg)]) (r := []) lq_146 ln_146 lk_146 lz_146 rfl ld_437 (uk_farthest (lw_r _) hl) (by decide) (⟨⟨_, rfl, rfl⟩, trivial⟩) hg rfl (by decide) (Nat.le_of_ble_eq_true rfl) hca hc (fun v h2 a2 W2 o2 g2 p2 => ?_)
  obtain ⟨n2, rfl, -⟩ := lw_an p2.1 o2
  refine lw_p C ld_440 rfl ?_
  exact next h2 W2 g2 p2.2
theorem lc_7 {p : Program} {l : Launch} {e : Env} {s : State} {m : MethodId} {args : Array Value} {below : List Frame} {meth : Method} {c : Code} {D : va_G} {B : jm_E} {cells slots : Nat} {Q : State → Prop} {L : Nat} {xs : Nat → Int32} {i : Int32} {h : jm_H} {W : fw_W} (C : lw_C p s m args meth c D B L xs) (hi : lw_at L i) (hc : cells ≤ room_1.cells ∧ slots ≤ room_1.slots) (hg : fw_gh W fw_T h) (hl : li W) (next : ∀ (h2 : jm_H) (W2 : fw_W), fw_gh W2 fw_T h2 → li W2 → jm_W p l e room_1 s m args below meth c 4 D B cells slots Q 1417 (lw_lv i) [] h2) : jm_W p l e room_1 s m args below meth c 4 D B cells slots Q 431 (lw_lv i) [] h := lca_7 C hi hc hg hl (fun h2 W2 g2 l2 => lcb_7 C hi hc g2 l2 (fun h3 W3 g3 l3 => lw_p C ld_451 rfl (next h3 W3 g3 l3)))
theorem lcb_8 {p : Program} {l : Launch} {e : Env} {s : State} {m : MethodId} {args : Array Value} {below : List Frame} {meth : Method} {c : Code} {D : va_G} {B : jm_E} {cells slots : Nat} {Q : State → Prop} {L : Nat} {xs : Nat → Int32} {i : Int32} {h : jm_H} {W : fw_W} (C : lw_C p s m args meth c D B L xs) (hi : lw_at L i) (hc : cells ≤ room_1.cells ∧ slots ≤ room_1.slots) (hg : fw_gh W fw_T h) (hl : li W) (next : ∀ (h2 : jm_H) (W2 : fw_W), fw_gh W2 fw_T h2 → li W2 → jm_W p l e room_1 s m args below meth c 4 D B cells slots Q 474 (lw_lv i) [] h2) : jm_W p l e room_1 s m args below meth c 4 D B cells slots Q 464 (lw_lv i) [] h := by
  refine lw_p C ld_464 rfl ?_
  refine lw_p C ld_465 rfl ?_
  refine lw_p C ld_466 rfl ?_
  refine lw_p C ld_467 rfl ?_
  refine lw_p C ld_468 rfl ?_
  refine lw_ld C ld_469 (lw_ix hi _ (by decide) (by decide)) ?_
  obtain ⟨fs, hca⟩ := lw_o1 hg
  refine lw_cv C (a := 352) (as := [.inl (xs (i + Int32.ofInt 1).toNatClampNeg).toInt]) (asc := [.int (xs (i + Int32.ofInt 1).toNatClampNeg)]) (r := []) lq_229 ln_229 lk_229 lz_229 rfl ld_470 (um_middle (lw_r _) hl) (by decide) (⟨⟨_, rfl, rfl⟩, trivial⟩) hg rfl (by decide) (Nat.le_of_ble_eq_true rfl) hca hc (fun v h2 a2 W2 o2 g2 p2 => ?_)
  obtain ⟨n2, rfl, -⟩ := lw_an p2.1 o2
  refine lw_p C ld_473 rfl ?_
  exact next h2 W2 g2 p2.2
theorem lca_8 {p : Program} {l : Launch} {e : Env} {s : State} {m : MethodId} {args : Array Value} {below : List Frame} {meth : Method} {c : Code} {D : va_G} {B : jm_E} {cells slots : Nat} {Q : State → Prop} {L : Nat} {xs : Nat → Int32} {i : Int32} {h : jm_H} {W : fw_W} (C : lw_C p s m args meth c D B L xs) (hi : lw_at L i) (hc : cells ≤ room_1.cells ∧ slots ≤ room_1.slots) (hg : fw_gh W fw_T h) (hl : li W) (next : ∀ (h2 : jm_H) (W2 : fw_W), fw_gh W2 fw_T h2 → li W2 → jm_W p l e room_1 s m args below meth c 4 D B cells slots Q 464 (lw_lv i) [] h2) : jm_W p l e room_1 s m args below meth c 4 D B cells slots Q 454 (lw_lv i) [] h := by
  refine lw_p C ld_454 rfl ?_
  refine lw_p C ld_455 rfl ?_
  refine lw_p C ld_456 rfl ?_
  refine lw_p C ld_457 rfl ?_
  refine lw_p C ld_458 rfl ?_
  refine lw_ld C ld_459 (lw_ix hi _ (by decide) (by decide)) ?_
  obtain ⟨fs, hca⟩ := lw_o0 hg
  refine lw_cv C (a := 0) (as := [.inl (xs (i + Int32.ofInt 1).toNatClampNeg).toInt]) (asc := [.int (xs (i + Int32.ofInt 1).toNatClampNeg)]) (r := []) lq_147 ln_147 lk_147 lz_147 rfl ld_460 (uk_middle (lw_r _) hl) (by decide) (⟨⟨_, rfl, rfl⟩, trivial⟩) hg rfl (by decide) (Nat.le_of_ble_eq_true rfl) hca hc (fun v h2 a2 W2 o2 g2 p2 => ?_)
  obtain ⟨n2, rfl, -⟩ := lw_an p2.1 o2
  refine lw_p C ld_463 rfl ?_
  exact next h2 W2 g2 p2.2
theorem lc_8 {p : Program} {l : Launch} {e : Env} {s : State} {m : MethodId} {args : Array Value} {below : List Frame} {meth : Method} {c : Code} {D : va_G} {B : jm_E} {cells slots : Nat} {Q : State → Prop} {L : Nat} {xs : Nat → Int32} {i : Int32} {h : jm_H} {W : fw_W} (C : lw_C p s m args meth c D B L xs) (hi : lw_at L i) (hc : cells ≤ room_1.cells ∧ slots ≤ room_1.slots) (hg : fw_gh W fw_T h) (hl : li W) (next : ∀ (h2 : jm_H) (W2 : fw_W), fw_gh W2 fw_T h2 → li W2 → jm_W p l e room_1 s m args below meth c 4 D B cells slots Q 1417 (lw_lv i) [] h2) : jm_W p l e room_1 s m args below meth c 4 D B cells slots Q 454 (lw_lv i) [] h := lca_8 C hi hc hg hl (fun h2 W2 g2 l2 => lcb_8 C hi hc g2 l2 (fun h3 W3 g3 l3 => lw_p C ld_474 rfl (next h3 W3 g3 l3)))
theorem lcb_9 {p : Program} {l : Launch} {e : Env} {s : State} {m : MethodId} {args : Array Value} {below : List Frame} {meth : Method} {c : Code} {D : va_G} {B : jm_E} {cells slots : Nat} {Q : State → Prop} {L : Nat} {xs : Nat → Int32} {i : Int32} {h : jm_H} {W : fw_W} (C : lw_C p s m args meth c D B L xs) (hi : lw_at L i) (hc : cells ≤ room_1.cells ∧ slots ≤ room_1.slots) (hg : fw_gh W fw_T h) (hl : li W) (next : ∀ (h2 : jm_H) (W2 : fw_W), fw_gh W2 fw_T h2 → li W2 → jm_W p l e room_1 s m args below meth c 4 D B cells slots Q 523 (lw_lv i) [] h2) : jm_W p l e room_1 s m args below meth c 4 D B cells slots Q 500 (lw_lv i) [] h := by
  refine lw_p C ld_500 rfl ?_
  refine lw_p C ld_501 rfl ?_
  refine lw_p C ld_502 rfl ?_
  refine lw_p C ld_503 rfl ?_
  refine lw_p C ld_504 rfl ?_
  refine lw_ld C ld_505 (lw_ix hi _ (by decide) (by decide)) ?_
  refine lw_p C ld_506 rfl ?_
  refine lw_p C ld_507 rfl ?_
  refine lw_p C ld_508 rfl ?_
  refine lw_p C ld_509 rfl ?_
  refine lw_ld C ld_510 (lw_ix hi _ (by decide) (by decide)) ?_
  refine lw_if C ld_511 rfl ?_ ?_
  · refine lw_p C ld_518 rfl ?_
    obtain ⟨fs, hca⟩ := lw_o1 hg
    refine lw_cv C (a := 352) (as := [.inl (xs (i + Int32.ofInt 1).toNatClampNeg).toInt, .inl 0]) (asc := [.int (xs (i + Int32.ofInt 1).toNatClampNeg), .int 0]) (r := []) lq_233 ln_233 lk_233 lz_233 rfl ld_519 (um_post (lw_r _) ⟨by decide, by decide⟩ hl) (by decide) (⟨⟨_, rfl, rfl⟩, ⟨⟨_, rfl, rfl⟩, trivial⟩⟩) hg rfl (by decide) (Nat.le_of_ble_eq_true rfl) hca hc (fun v h2 a2 W2 o2 g2 p2 => ?_)
    obtain ⟨n2, rfl, -⟩ := lw_an p2.1 o2
    refine lw_p C ld_522 rfl ?_
    exact next h2 W2 g2 p2.2
  · refine lw_p C ld_514 rfl ?_
    refine lw_p C ld_515 rfl ?_
    obtain ⟨fs, hca⟩ := lw_o1 hg
    refine lw_cv C (a := 352) (as := [.inl (xs (i + Int32.ofInt 1).toNatClampNeg).toInt, .inl 1]) (asc := [.int (xs (i + Int32.ofInt 1).toNatClampNeg), .int 1]) (r := []) lq_233 ln_233 lk_233 lz_233 rfl ld_519 (um_post (lw_r _) ⟨by decide, by decide⟩ hl) (by decide) (⟨⟨_, rfl, rfl⟩, ⟨⟨_, rfl, rfl⟩, trivial⟩⟩) hg rfl (by decide) (Nat.le_of_ble_eq_true rfl) hca hc (fun v h2 a2 W2 o2 g2 p2 => ?_)
    obtain ⟨n2, rfl, -⟩ := lw_an p2.1 o2
    refine lw_p C ld_522 rfl ?_
    exact next h2 W2 g2 p2.2
theorem lca_9 {p : Program} {l : Launch} {e : Env} {s : State} {m : MethodId} {args : Array Value} {below : List Frame} {meth : Method} {c : Code} {D : va_G} {B : jm_E} {cells slots : Nat} {Q : State → Prop} {L : Nat} {xs : Nat → Int32} {i : Int32} {h : jm_H} {W : fw_W} (C : lw_C p s m args meth c D B L xs) (hi : lw_at L i) (hc : cells ≤ room_1.cells ∧ slots ≤ room_1.slots) (hg : fw_gh W fw_T h) (hl : li W) (next : ∀ (h2 : jm_H) (W2 : fw_W), fw_gh W2 fw_T h2 → li W2 → jm_W p l e room_1 s m args below meth c 4 D B cells slots Q 500 (lw_lv i) [] h2) : jm_W p l e room_1 s m args below meth c 4 D B cells slots Q 477 (lw_lv i) [] h := by
  refine lw_p C ld_477 rfl ?_
  refine lw_p C ld_478 rfl ?_
  refine lw_p C ld_479 rfl ?_
  refine lw_p C ld_480 rfl ?_
  refine lw_p C ld_481 rfl ?_
  refine lw_ld C ld_482 (lw_ix hi _ (by decide) (by decide)) ?_
  refine lw_p C ld_483 rfl ?_
  refine lw_p C ld_484 rfl ?_
  refine lw_p C ld_485 rfl ?_
  refine lw_p C ld_486 rfl ?_
  refine lw_ld C ld_487 (lw_ix hi _ (by decide) (by decide)) ?_
  refine lw_if C ld_488 rfl ?_ ?_
  · refine lw_p C ld_495 rfl ?_
    obtain ⟨fs, hca⟩ := lw_o0 hg
    refine lw_cv C (a := 0) (as := [.inl (xs (i + Int32.ofInt 1).toNatClampNeg).toInt, .inl 0]) (asc := [.int (xs (i + Int32.ofInt 1).toNatClampNeg), .int 0]) (r := []) lq_148 ln_148 lk_148 lz_148 rfl ld_496 (uk_post (lw_r _) ⟨by decide, by decide⟩ hl) (by decide) (⟨⟨_, rfl, rfl⟩, ⟨⟨_, rfl, rfl⟩, trivial⟩⟩) hg rfl (by decide) (Nat.le_of_ble_eq_true rfl) hca hc (fun v h2 a2 W2 o2 g2 p2 => ?_)
    obtain ⟨n2, rfl, -⟩ := lw_an p2.1 o2
    refine lw_p C ld_499 rfl ?_
    exact next h2 W2 g2 p2.2
  · refine lw_p C ld_491 rfl ?_
    refine lw_p C ld_492 rfl ?_
    obtain ⟨fs, hca⟩ := lw_o0 hg
    refine lw_cv C (a := 0) (as := [.inl (xs (i + Int32.ofInt 1).toNatClampNeg).toInt, .inl 1]) (asc := [.int (xs (i + Int32.ofInt 1).toNatClampNeg), .int 1]) (r := []) lq_148 ln_148 lk_148 lz_148 rfl ld_496 (uk_post (lw_r _) ⟨by decide, by decide⟩ hl) (by decide) (⟨⟨_, rfl, rfl⟩, ⟨⟨_, rfl, rfl⟩, trivial⟩⟩) hg rfl (by decide) (Nat.le_of_ble_eq_true rfl) hca hc (fun v h2 a2 W2 o2 g2 p2 => ?_)
    obtain ⟨n2, rfl, -⟩ := lw_an p2.1 o2
    refine lw_p C ld_499 rfl ?_
    exact next h2 W2 g2 p2.2
theorem lc_9 {p : Program} {l : Launch} {e : Env} {s : State} {m : MethodId} {args : Array Value} {below : List Frame} {meth : Method} {c : Code} {D : va_G} {B : jm_E} {cells slots : Nat} {Q : State → Prop} {L : Nat} {xs : Nat → Int32} {i : Int32} {h : jm_H} {W : fw_W} (C : lw_C p s m args meth c D B L xs) (hi : lw_at L i) (hc : cells ≤ room_1.cells ∧ slots ≤ room_1.slots) (hg : fw_gh W fw_T h) (hl : li W) (next : ∀ (h2 : jm_H) (W2 : fw_W), fw_gh W2 fw_T h2 → li W2 → jm_W p l e room_1 s m args below meth c 4 D B cells slots Q 1417 (lw_lv i) [] h2) : jm_W p l e room_1 s m args below meth c 4 D B cells slots Q 477 (lw_lv i) [] h := lca_9 C hi hc hg hl (fun h2 W2 g2 l2 => lcb_9 C hi hc g2 l2 (fun h3 W3 g3 l3 => lw_p C ld_523 rfl (next h3 W3 g3 l3)))
theorem lcb_10 {p : Program} {l : Launch} {e : Env} {s : State} {m : MethodId} {args : Array Value} {below : List Frame} {meth : Method} {c : Code} {D : va_G} {B : jm_E} {cells slots : Nat} {Q : State → Prop} {L : Nat} {xs : Nat → Int32} {i : Int32} {h : jm_H} {W : fw_W} (C : lw_C p s m args meth c D B L xs) (hi : lw_at L i) (hc : cells ≤ room_1.cells ∧ slots ≤ room_1.slots) (hg : fw_gh W fw_T h) (hl : li W) (next : ∀ (h2 : jm_H) (W2 : fw_W), fw_gh W2 fw_T h2 → li W2 → jm_W p l e room_1 s m args below meth c 4 D B cells slots Q 566 (lw_lv i) [] h2) : jm_W p l e room_1 s m args below meth c 4 D B cells slots Q 546 (lw_lv i) [] h := by
  refine lw_p C ld_546 rfl ?_
  refine lw_p C ld_547 rfl ?_
  refine lw_p C ld_548 rfl ?_
  refine lw_p C ld_549 rfl ?_
  refine lw_p C ld_550 rfl ?_
  refine lw_ld C ld_551 (lw_ix hi _ (by decide) (by decide)) ?_
  refine lw_p C ld_552 rfl ?_
  refine lw_p C ld_553 rfl ?_
  refine lw_p C ld_554 rfl ?_
  refine lw_p C ld_555 rfl ?_
  refine lw_ld C ld_556 (lw_ix hi _ (by decide) (by decide)) ?_
  refine lw_p C ld_557 rfl ?_
  refine lw_p C ld_558 rfl ?_
  refine lw_p C ld_559 rfl ?_
  refine lw_p C ld_560 rfl ?_
  refine lw_ld C ld_561 (lw_ix hi _ (by decide) (by decide)) ?_
  obtain ⟨fs, hca⟩ := lw_o1 hg
  refine lw_cv C (a := 352) (as := [.inl (xs (i + Int32.ofInt 1).toNatClampNeg).toInt, .inl (xs (i + Int32.ofInt 2).toNatClampNeg).toInt, .inl (xs (i + Int32.ofInt 3).toNatClampNeg).toInt]) (asc := [.int (xs (i + Int32.ofInt 1).toNatClampNeg), .int (xs (i + Int32.ofInt 2).toNatClampNeg), .int (xs (i + Int32.ofInt 3).toNatClampNeg)]) (r := []) lq_236 ln_236 lk_236 lz_236 rfl ld_562 (um_grow (lw_r _) (lw_r _) (lw_r _) hl) (by decide) (⟨⟨_, rfl, rfl⟩, ⟨⟨_, rfl, rfl⟩, ⟨⟨_, rfl, rfl⟩, trivial⟩⟩⟩) hg rfl (by decide) (Nat.le_of_ble_eq_true rfl) hca hc (fun v h2 a2 W2 o2 g2 p2 => ?_)
  obtain ⟨n2, rfl, -⟩ := lw_an p2.1 o2
  refine lw_p C ld_565 rfl ?_
  exact next h2 W2 g2 p2.2
theorem lca_10 {p : Program} {l : Launch} {e : Env} {s : State} {m : MethodId} {args : Array Value} {below : List Frame} {meth : Method} {c : Code} {D : va_G} {B : jm_E} {cells slots : Nat} {Q : State → Prop} {L : Nat} {xs : Nat → Int32} {i : Int32} {h : jm_H} {W : fw_W} (C : lw_C p s m args meth c D B L xs) (hi : lw_at L i) (hc : cells ≤ room_1.cells ∧ slots ≤ room_1.slots) (hg : fw_gh W fw_T h) (hl : li W) (next : ∀ (h2 : jm_H) (W2 : fw_W), fw_gh W2 fw_T h2 → li W2 → jm_W p l e room_1 s m args below meth c 4 D B cells slots Q 546 (lw_lv i) [] h2) : jm_W p l e room_1 s m args below meth c 4 D B cells slots Q 526 (lw_lv i) [] h := by
  refine lw_p C ld_526 rfl ?_
  refine lw_p C ld_527 rfl ?_
  refine lw_p C ld_528 rfl ?_
  refine lw_p C ld_529 rfl ?_
  refine lw_p C ld_530 rfl ?_
  refine lw_ld C ld_531 (lw_ix hi _ (by decide) (by decide)) ?_
  refine lw_p C ld_532 rfl ?_
  refine lw_p C ld_533 rfl ?_
  refine lw_p C ld_534 rfl ?_
  refine lw_p C ld_535 rfl ?_
  refine lw_ld C ld_536 (lw_ix hi _ (by decide) (by decide)) ?_
  refine lw_p C ld_537 rfl ?_
  refine lw_p C ld_538 rfl ?_
  refine lw_p C ld_539 rfl ?_
  refine lw_p C ld_540 rfl ?_
  refine lw_ld C ld_541 (lw_ix hi _ (by decide) (by decide)) ?_
  obtain ⟨fs, hca⟩ := lw_o0 hg
  refine lw_cv C (a := 0) (as := [.inl (xs (i + Int32.ofInt 1).toNatClampNeg).toInt, .inl (xs (i + Int32.ofInt 2).toNatClampNeg).toInt, .inl (xs (i + Int32.ofInt 3).toNatClampNeg).toInt]) (asc := [.int (xs (i + Int32.ofInt 1).toNatClampNeg), .int (xs (i + Int32.ofInt 2).toNatClampNeg), .int (xs (i + Int32.ofInt 3).toNatClampNeg)]) (r := []) lq_151 ln_151 lk_151 lz_151 rfl ld_542 (uk_grow (lw_r _) (lw_r _) (lw_r _) hl) (by decide) (⟨⟨_, rfl, rfl⟩, ⟨⟨_, rfl, rfl⟩, ⟨⟨_, rfl, rfl⟩, trivial⟩⟩⟩) hg rfl (by decide) (Nat.le_of_ble_eq_true rfl) hca hc (fun v h2 a2 W2 o2 g2 p2 => ?_)
  obtain ⟨n2, rfl, -⟩ := lw_an p2.1 o2
  refine lw_p C ld_545 rfl ?_
  exact next h2 W2 g2 p2.2
theorem lc_10 {p : Program} {l : Launch} {e : Env} {s : State} {m : MethodId} {args : Array Value} {below : List Frame} {meth : Method} {c : Code} {D : va_G} {B : jm_E} {cells slots : Nat} {Q : State → Prop} {L : Nat} {xs : Nat → Int32} {i : Int32} {h : jm_H} {W : fw_W} (C : lw_C p s m args meth c D B L xs) (hi : lw_at L i) (hc : cells ≤ room_1.cells ∧ slots ≤ room_1.slots) (hg : fw_gh W fw_T h) (hl : li W) (next : ∀ (h2 : jm_H) (W2 : fw_W), fw_gh W2 fw_T h2 → li W2 → jm_W p l e room_1 s m args below meth c 4 D B cells slots Q 1417 (lw_lv i) [] h2) : jm_W p l e room_1 s m args below meth c 4 D B cells slots Q 526 (lw_lv i) [] h := lca_10 C hi hc hg hl (fun h2 W2 g2 l2 => lcb_10 C hi hc g2 l2 (fun h3 W3 g3 l3 => lw_p C ld_566 rfl (next h3 W3 g3 l3)))
