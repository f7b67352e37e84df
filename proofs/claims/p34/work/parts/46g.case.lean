/-! the law's cases -/
theorem lcb_34 {p : Program} {l : Launch} {e : Env} {s : State} {m : MethodId} {args : Array Value} {below : List Frame} {meth : Method} {c : Code} {D : va_G} {B : jm_E} {cells slots : Nat} {Q : State → Prop} {L : Nat} {xs : Nat → Int32} {i : Int32} {h : jm_H} {W : fw_W} (C : lw_C p s m args meth c D B L xs) (hi : lw_at L i) (hc : cells ≤ room_1.cells ∧ slots ≤ room_1.slots) (hg : fw_gh W fw_T h) (hl : li W) (next : ∀ (h2 : jm_H) (W2 : fw_W), fw_gh W2 fw_T h2 → li W2 → jm_W p l e room_1 s m args below meth c 4 D B cells slots Q 1180 (lw_lv i) [] h2) : jm_W p l e room_1 s m args below meth c 4 D B cells slots Q 1170 (lw_lv i) [] h := by
  refine lw_p C ld_1170 rfl ?_
  refine lw_p C ld_1171 rfl ?_
  refine lw_p C ld_1172 rfl ?_
  refine lw_p C ld_1173 rfl ?_
  refine lw_p C ld_1174 rfl ?_
  refine lw_ld C ld_1175 (lw_ix hi _ (by decide) (by decide)) ?_
  obtain ⟨fs, hca⟩ := lw_o1 hg
  refine lw_cv C (a := 352) (as := [.inl (xs (i + Int32.ofInt 1).toNatClampNeg).toInt]) (asc := [.int (xs (i + Int32.ofInt 1).toNatClampNeg)]) (r := []) lq_220 ln_220 lk_220 lz_220 rfl ld_1176 (um_lies (lw_r _) hl) (by decide) (⟨⟨_, rfl, rfl⟩, trivial⟩) hg rfl (by decide) (Nat.le_of_ble_eq_true rfl) hca hc (fun v h2 a2 W2 o2 g2 p2 => ?_)
  obtain ⟨n2, rfl, -⟩ := lw_an p2.1 o2
  refine lw_p C ld_1179 rfl ?_
  exact next h2 W2 g2 p2.2
theorem lca_34 {p : Program} {l : Launch} {e : Env} {s : State} {m : MethodId} {args : Array Value} {below : List Frame} {meth : Method} {c : Code} {D : va_G} {B : jm_E} {cells slots : Nat} {Q : State → Prop} {L : Nat} {xs : Nat → Int32} {i : Int32} {h : jm_H} {W : fw_W} (C : lw_C p s m args meth c D B L xs) (hi : lw_at L i) (hc : cells ≤ room_1.cells ∧ slots ≤ room_1.slots) (hg : fw_gh W fw_T h) (hl : li W) (next : ∀ (h2 : jm_H) (W2 : fw_W), fw_gh W2 fw_T h2 → li W2 → jm_W p l e room_1 s m args below meth c 4 D B cells slots Q 1170 (lw_lv i) [] h2) : jm_W p l e room_1 s m args below meth c 4 D B cells slots Q 1160 (lw_lv i) [] h := by
  refine lw_p C ld_1160 rfl ?_
  refine lw_p C ld_1161 rfl ?_
  refine lw_p C ld_1162 rfl ?_
  refine lw_p C ld_1163 rfl ?_
  refine lw_p C ld_1164 rfl ?_
  refine lw_ld C ld_1165 (lw_ix hi _ (by decide) (by decide)) ?_
  obtain ⟨fs, hca⟩ := lw_o0 hg
  refine lw_cv C (a := 0) (as := [.inl (xs (i + Int32.ofInt 1).toNatClampNeg).toInt]) (asc := [.int (xs (i + Int32.ofInt 1).toNatClampNeg)]) (r := []) lq_178 ln_178 lk_178 lz_178 rfl ld_1166 (uk_lies (lw_r _) hl) (by decide) (⟨⟨_, rfl, rfl⟩, trivial⟩) hg rfl (by decide) (Nat.le_of_ble_eq_true rfl) hca hc (fun v h2 a2 W2 o2 g2 p2 => ?_)
  obtain ⟨n2, rfl, -⟩ := lw_an p2.1 o2
  refine lw_p C ld_1169 rfl ?_
  exact next h2 W2 g2 p2.2
theorem lc_34 {p : Program} {l : Launch} {e : Env} {s : State} {m : MethodId} {args : Array Value} {below : List Frame} {meth : Method} {c : Code} {D : va_G} {B : jm_E} {cells slots : Nat} {Q : State → Prop} {L : Nat} {xs : Nat → Int32} {i : Int32} {h : jm_H} {W : fw_W} (C : lw_C p s m args meth c D B L xs) (hi : lw_at L i) (hc : cells ≤ room_1.cells ∧ slots ≤ room_1.slots) (hg : fw_gh W fw_T h) (hl : li W) (next : ∀ (h2 : jm_H) (W2 : fw_W), fw_gh W2 fw_T h2 → li W2 → jm_W p l e room_1 s m args below meth c 4 D B cells slots Q 1417 (lw_lv i) [] h2) : jm_W p l e room_1 s m args below meth c 4 D B cells slots Q 1160 (lw_lv i) [] h := lca_34 C hi hc hg hl (fun h2 W2 g2 l2 => lcb_34 C hi hc g2 l2 (fun h3 W3 g3 l3 => lw_p C ld_1180 rfl (next h3 W3 g3 l3)))
theorem lcb_35 {p : Program} {l : Launch} {e : Env} {s : State} {m : MethodId} {args : Array Value} {below : List Frame} {meth : Method} {c : Code} {D : va_G} {B : jm_E} {cells slots : Nat} {Q : State → Prop} {L : Nat} {xs : Nat → Int32} {i : Int32} {h : jm_H} {W : fw_W} (C : lw_C p s m args meth c D B L xs) (hi : lw_at L i) (hc : cells ≤ room_1.cells ∧ slots ≤ room_1.slots) (hg : fw_gh W fw_T h) (hl : li W) (next : ∀ (h2 : jm_H) (W2 : fw_W), fw_gh W2 fw_T h2 → li W2 → jm_W p l e room_1 s m args below meth c 4 D B cells slots Q 1223 (lw_lv i) [] h2) : jm_W p l e room_1 s m args below meth c 4 D B cells slots Q 1203 (lw_lv i) [] h := by
  refine lw_p C ld_1203 rfl ?_
  refine lw_p C ld_1204 rfl ?_
  refine lw_p C ld_1205 rfl ?_
  refine lw_p C ld_1206 rfl ?_
  refine lw_p C ld_1207 rfl ?_
  refine lw_ld C ld_1208 (lw_ix hi _ (by decide) (by decide)) ?_
  refine lw_p C ld_1209 rfl ?_
  refine lw_p C ld_1210 rfl ?_
  refine lw_p C ld_1211 rfl ?_
  refine lw_p C ld_1212 rfl ?_
  refine lw_ld C ld_1213 (lw_ix hi _ (by decide) (by decide)) ?_
  refine lw_p C ld_1214 rfl ?_
  refine lw_p C ld_1215 rfl ?_
  refine lw_p C ld_1216 rfl ?_
  refine lw_p C ld_1217 rfl ?_
  refine lw_ld C ld_1218 (lw_ix hi _ (by decide) (by decide)) ?_
  obtain ⟨fs, hca⟩ := lw_o1 hg
  refine lw_cv C (a := 352) (as := [.inl (xs (i + Int32.ofInt 1).toNatClampNeg).toInt, .inl (xs (i + Int32.ofInt 2).toNatClampNeg).toInt, .inl (xs (i + Int32.ofInt 3).toNatClampNeg).toInt]) (asc := [.int (xs (i + Int32.ofInt 1).toNatClampNeg), .int (xs (i + Int32.ofInt 2).toNatClampNeg), .int (xs (i + Int32.ofInt 3).toNatClampNeg)]) (r := []) lq_300 ln_300 lk_300 lz_300 rfl ld_1219 (um_distance (lw_r _) (lw_r _) (lw_r _) hl) (by decide) (⟨⟨_, rfl, rfl⟩, ⟨⟨_, rfl, rfl⟩, ⟨⟨_, rfl, rfl⟩, trivial⟩⟩⟩) hg rfl (by decide) (Nat.le_of_ble_eq_true rfl) hca hc (fun v h2 a2 W2 o2 g2 p2 => ?_)
  obtain ⟨n2, rfl, -⟩ := lw_an p2.1 o2
  refine lw_p C ld_1222 rfl ?_
  exact next h2 W2 g2 p2.2
theorem lca_35 {p : Program} {l : Launch} {e : Env} {s : State} {m : MethodId} {args : Array Value} {below : List Frame} {meth : Method} {c : Code} {D : va_G} {B : jm_E} {cells slots : Nat} {Q : State → Prop} {L : Nat} {xs : Nat → Int32} {i : Int32} {h : jm_H} {W : fw_W} (C : lw_C p s m args meth c D B L xs) (hi : lw_at L i) (hc : cells ≤ room_1.cells ∧ slots ≤ room_1.slots) (hg : fw_gh W fw_T h) (hl : li W) (next : ∀ (h2 : jm_H) (W2 : fw_W), fw_gh W2 fw_T h2 → li W2 → jm_W p l e room_1 s m args below meth c 4 D B cells slots Q 1203 (lw_lv i) [] h2) : jm_W p l e room_1 s m args below meth c 4 D B cells slots Q 1183 (lw_lv i) [] h := by
  refine lw_p C ld_1183 rfl ?_
  refine lw_p C ld_1184 rfl ?_
  refine lw_p C ld_1185 rfl ?_
  refine lw_p C ld_1186 rfl ?_
  refine lw_p C ld_1187 rfl ?_
  refine lw_ld C ld_1188 (lw_ix hi _ (by decide) (by decide)) ?_
  refine lw_p C ld_1189 rfl ?_
  refine lw_p C ld_1190 rfl ?_
  refine lw_p C ld_1191 rfl ?_
  refine lw_p C ld_1192 rfl ?_
  refine lw_ld C ld_1193 (lw_ix hi _ (by decide) (by decide)) ?_
  refine lw_p C ld_1194 rfl ?_
  refine lw_p C ld_1195 rfl ?_
  refine lw_p C ld_1196 rfl ?_
  refine lw_p C ld_1197 rfl ?_
  refine lw_ld C ld_1198 (lw_ix hi _ (by decide) (by decide)) ?_
  obtain ⟨fs, hca⟩ := lw_o0 hg
  refine lw_cv C (a := 0) (as := [.inl (xs (i + Int32.ofInt 1).toNatClampNeg).toInt, .inl (xs (i + Int32.ofInt 2).toNatClampNeg).toInt, .inl (xs (i + Int32.ofInt 3).toNatClampNeg).toInt]) (asc := [.int (xs (i + Int32.ofInt 1).toNatClampNeg), .int (xs (i + Int32.ofInt 2).toNatClampNeg), .int (xs (i + Int32.ofInt 3).toNatClampNeg)]) (r := []) lq_179 ln_179 lk_179 lz_179 rfl ld_1199 (uk_distance (lw_r _) (lw_r _) (lw_r _) hl) (by decide) (⟨⟨_, rfl, rfl⟩, ⟨⟨_, rfl, rfl⟩, ⟨⟨_, rfl, rfl⟩, trivial⟩⟩⟩) hg rfl (by decide) (Nat.le_of_ble_eq_true rfl) hca hc (fun v h2 a2 W2 o2 g2 p2 => ?_)
  obtain ⟨n2, rfl, -⟩ := lw_an p2.1 o2
  refine lw_p C ld_1202 rfl ?_
  exact next h2 W2 g2 p2.2
theorem lc_35 {p : Program} {l : Launch} {e : Env} {s : State} {m : MethodId} {args : Array Value} {below : List Frame} {meth : Method} {c : Code} {D : va_G} {B : jm_E} {cells slots : Nat} {Q : State → Prop} {L : Nat} {xs : Nat → Int32} {i : Int32} {h : jm_H} {W : fw_W} (C : lw_C p s m args meth c D B L xs) (hi : lw_at L i) (hc : cells ≤ room_1.cells ∧ slots ≤ room_1.slots) (hg : fw_gh W fw_T h) (hl : li W) (next : ∀ (h2 : jm_H) (W2 : fw_W), fw_gh W2 fw_T h2 → li W2 → jm_W p l e room_1 s m args below meth c 4 D B cells slots Q 1417 (lw_lv i) [] h2) : jm_W p l e room_1 s m args below meth c 4 D B cells slots Q 1183 (lw_lv i) [] h := lca_35 C hi hc hg hl (fun h2 W2 g2 l2 => lcb_35 C hi hc g2 l2 (fun h3 W3 g3 l3 => lw_p C ld_1223 rfl (next h3 W3 g3 l3)))
theorem lcb_36 {p : Program} {l : Launch} {e : Env} {s : State} {m : MethodId} {args : Array Value} {below : List Frame} {meth : Method} {c : Code} {D : va_G} {B : jm_E} {cells slots : Nat} {Q : State → Prop} {L : Nat} {xs : Nat → Int32} {i : Int32} {h : jm_H} {W : fw_W} (C : lw_C p s m args meth c D B L xs) (hi : lw_at L i) (hc : cells ≤ room_1.cells ∧ slots ≤ room_1.slots) (hg : fw_gh W fw_T h) (hl : li W) (next : ∀ (h2 : jm_H) (W2 : fw_W), fw_gh W2 fw_T h2 → li W2 → jm_W p l e room_1 s m args below meth c 4 D B cells slots Q 1246 (lw_lv i) [] h2) : jm_W p l e room_1 s m args below meth c 4 D B cells slots Q 1236 (lw_lv i) [] h := by
  refine lw_p C ld_1236 rfl ?_
  refine lw_p C ld_1237 rfl ?_
  refine lw_p C ld_1238 rfl ?_
  refine lw_p C ld_1239 rfl ?_
  refine lw_p C ld_1240 rfl ?_
  refine lw_ld C ld_1241 (lw_ix hi _ (by decide) (by decide)) ?_
  obtain ⟨fs, hca⟩ := lw_o1 hg
  refine lw_cv C (a := 352) (as := [.inl (xs (i + Int32.ofInt 1).toNatClampNeg).toInt]) (asc := [.int (xs (i + Int32.ofInt 1).toNatClampNeg)]) (r := []) lq_301 ln_301 lk_301 lz_301 rfl ld_1242 (um_untell (lw_r _) hl) (by decide) (⟨⟨_, rfl, rfl⟩, trivial⟩) hg rfl (by decide) (Nat.le_of_ble_eq_true rfl) hca hc (fun v h2 a2 W2 o2 g2 p2 => ?_)
  obtain ⟨n2, rfl, -⟩ := lw_an p2.1 o2
  refine lw_p C ld_1245 rfl ?_
  exact next h2 W2 g2 p2.2
theorem lca_36 {p : Program} {l : Launch} {e : Env} {s : State} {m : MethodId} {args : Array Value} {below : List Frame} {meth : Method} {c : Code} {D : va_G} {B : jm_E} {cells slots : Nat} {Q : State → Prop} {L : Nat} {xs : Nat → Int32} {i : Int32} {h : jm_H} {W : fw_W} (C : lw_C p s m args meth c D B L xs) (hi : lw_at L i) (hc : cells ≤ room_1.cells ∧ slots ≤ room_1.slots) (hg : fw_gh W fw_T h) (hl : li W) (next : ∀ (h2 : jm_H) (W2 : fw_W), fw_gh W2 fw_T h2 → li W2 → jm_W p l e room_1 s m args below meth c 4 D B cells slots Q 1236 (lw_lv i) [] h2) : jm_W p l e room_1 s m args below meth c 4 D B cells slots Q 1226 (lw_lv i) [] h := by
  refine lw_p C ld_1226 rfl ?_
  refine lw_p C ld_1227 rfl ?_
  refine lw_p C ld_1228 rfl ?_
  refine lw_p C ld_1229 rfl ?_
  refine lw_p C ld_1230 rfl ?_
  refine lw_ld C ld_1231 (lw_ix hi _ (by decide) (by decide)) ?_
  obtain ⟨fs, hca⟩ := lw_o0 hg
  refine lw_cv C (a := 0) (as := [.inl (xs (i + Int32.ofInt 1).toNatClampNeg).toInt]) (asc := [.int (xs (i + Int32.ofInt 1).toNatClampNeg)]) (r := []) lq_180 ln_180 lk_180 lz_180 rfl ld_1232 (uk_untell (lw_r _) hl) (by decide) (⟨⟨_, rfl, rfl⟩, trivial⟩) hg rfl (by decide) (Nat.le_of_ble_eq_true rfl) hca hc (fun v h2 a2 W2 o2 g2 p2 => ?_)
  obtain ⟨n2, rfl, -⟩ := lw_an p2.1 o2
  refine lw_p C ld_1235 rfl ?_
  exact next h2 W2 g2 p2.2
theorem lc_36 {p : Program} {l : Launch} {e : Env} {s : State} {m : MethodId} {args : Array Value} {below : List Frame} {meth : Method} {c : Code} {D : va_G} {B : jm_E} {cells slots : Nat} {Q : State → Prop} {L : Nat} {xs : Nat → Int32} {i : Int32} {h : jm_H} {W : fw_W} (C : lw_C p s m args meth c D B L xs) (hi : lw_at L i) (hc : cells ≤ room_1.cells ∧ slots ≤ room_1.slots) (hg : fw_gh W fw_T h) (hl : li W) (next : ∀ (h2 : jm_H) (W2 : fw_W), fw_gh W2 fw_T h2 → li W2 → jm_W p l e room_1 s m args below meth c 4 D B cells slots Q 1417 (lw_lv i) [] h2) : jm_W p l e room_1 s m args below meth c 4 D B cells slots Q 1226 (lw_lv i) [] h := lca_36 C hi hc hg hl (fun h2 W2 g2 l2 => lcb_36 C hi hc g2 l2 (fun h3 W3 g3 l3 => lw_p C ld_1246 rfl (next h3 W3 g3 l3)))
theorem lcb_38 {p : Program} {l : Launch} {e : Env} {s : State} {m : MethodId} {args : Array Value} {below : List Frame} {meth : Method} {c : Code} {D : va_G} {B : jm_E} {cells slots : Nat} {Q : State → Prop} {L : Nat} {xs : Nat → Int32} {i : Int32} {h : jm_H} {W : fw_W} (C : lw_C p s m args meth c D B L xs) (hi : lw_at L i) (hc : cells ≤ room_1.cells ∧ slots ≤ room_1.slots) (hg : fw_gh W fw_T h) (hl : li W) (next : ∀ (h2 : jm_H) (W2 : fw_W), fw_gh W2 fw_T h2 → li W2 → jm_W p l e room_1 s m args below meth c 4 D B cells slots Q 1302 (lw_lv i) [] h2) : jm_W p l e room_1 s m args below meth c 4 D B cells slots Q 1287 (lw_lv i) [] h := by
  refine lw_p C ld_1287 rfl ?_
  refine lw_p C ld_1288 rfl ?_
  refine lw_p C ld_1289 rfl ?_
  refine lw_p C ld_1290 rfl ?_
  refine lw_p C ld_1291 rfl ?_
  refine lw_ld C ld_1292 (lw_ix hi _ (by decide) (by decide)) ?_
  refine lw_p C ld_1293 rfl ?_
  refine lw_p C ld_1294 rfl ?_
  refine lw_p C ld_1295 rfl ?_
  refine lw_p C ld_1296 rfl ?_
  refine lw_ld C ld_1297 (lw_ix hi _ (by decide) (by decide)) ?_
  obtain ⟨fs, hca⟩ := lw_o1 hg
  refine lw_cv C (a := 352) (as := [.inl (xs (i + Int32.ofInt 1).toNatClampNeg).toInt, .inl (xs (i + Int32.ofInt 2).toNatClampNeg).toInt]) (asc := [.int (xs (i + Int32.ofInt 1).toNatClampNeg), .int (xs (i + Int32.ofInt 2).toNatClampNeg)]) (r := []) lq_303 ln_303 lk_303 lz_303 rfl ld_1298 (um_wrong (lw_r _) (lw_r _) hl) (by decide) (⟨⟨_, rfl, rfl⟩, ⟨⟨_, rfl, rfl⟩, trivial⟩⟩) hg rfl (by decide) (Nat.le_of_ble_eq_true rfl) hca hc (fun v h2 a2 W2 o2 g2 p2 => ?_)
  obtain ⟨n2, rfl, -⟩ := lw_an p2.1 o2
  refine lw_p C ld_1301 rfl ?_
  exact next h2 W2 g2 p2.2
theorem lca_38 {p : Program} {l : Launch} {e : Env} {s : State} {m : MethodId} {args : Array Value} {below : List Frame} {meth : Method} {c : Code} {D : va_G} {B : jm_E} {cells slots : Nat} {Q : State → Prop} {L : Nat} {xs : Nat → Int32} {i : Int32} {h : jm_H} {W : fw_W} (C : lw_C p s m args meth c D B L xs) (hi : lw_at L i) (hc : cells ≤ room_1.cells ∧ slots ≤ room_1.slots) (hg : fw_gh W fw_T h) (hl : li W) (next : ∀ (h2 : jm_H) (W2 : fw_W), fw_gh W2 fw_T h2 → li W2 → jm_W p l e room_1 s m args below meth c 4 D B cells slots Q 1287 (lw_lv i) [] h2) : jm_W p l e room_1 s m args below meth c 4 D B cells slots Q 1272 (lw_lv i) [] h := by
  refine lw_p C ld_1272 rfl ?_
  refine lw_p C ld_1273 rfl ?_
  refine lw_p C ld_1274 rfl ?_
  refine lw_p C ld_1275 rfl ?_
  refine lw_p C ld_1276 rfl ?_
  refine lw_ld C ld_1277 (lw_ix hi _ (by decide) (by decide)) ?_
  refine lw_p C ld_1278 rfl ?_
  refine lw_p C ld_1279 rfl ?_
  refine lw_p C ld_1280 rfl ?_
  refine lw_p C ld_1281 rfl ?_
  refine lw_ld C ld_1282 (lw_ix hi _ (by decide) (by decide)) ?_
  obtain ⟨fs, hca⟩ := lw_o0 hg
  refine lw_cv C (a := 0) (as := [.inl (xs (i + Int32.ofInt 1).toNatClampNeg).toInt, .inl (xs (i + Int32.ofInt 2).toNatClampNeg).toInt]) (asc := [.int (xs (i + Int32.ofInt 1).toNatClampNeg), .int (xs (i + Int32.ofInt 2).toNatClampNeg)]) (r := []) lq_182 ln_182 lk_182 lz_182 rfl ld_1283 (uk_wrong (lw_r _) (lw_r _) hl) (by decide) (⟨⟨_, rfl, rfl⟩, ⟨⟨_, rfl, rfl⟩, trivial⟩⟩) hg rfl (by decide) (Nat.le_of_ble_eq_true rfl) hca hc (fun v h2 a2 W2 o2 g2 p2 => ?_)
  obtain ⟨n2, rfl, -⟩ := lw_an p2.1 o2
  refine lw_p C ld_1286 rfl ?_
  exact next h2 W2 g2 p2.2
theorem lc_38 {p : Program} {l : Launch} {e : Env} {s : State} {m : MethodId} {args : Array Value} {below : List Frame} {meth : Method} {c : Code} {D : va_G} {B : jm_E} {cells slots : Nat} {Q : State → Prop} {L : Nat} {xs : Nat → Int32} {i : Int32} {h : jm_H} {W : fw_W} (C : lw_C p s m args meth c D B L xs) (hi : lw_at L i) (hc : cells ≤ room_1.cells ∧ slots ≤ room_1.slots) (hg : fw_gh W fw_T h) (hl : li W) (next : ∀ (h2 : jm_H) (W2 : fw_W), fw_gh W2 fw_T h2 → li W2 → jm_W p l e room_1 s m args below meth c 4 D B cells slots Q 1417 (lw_lv i) [] h2) : jm_W p l e room_1 s m args below meth c 4 D B cells slots Q 1272 (lw_lv i) [] h := lca_38 C hi hc hg hl (fun h2 W2 g2 l2 => lcb_38 C hi hc g2 l2 (fun h3 W3 g3 l3 => lw_p C ld_1302 rfl (next h3 W3 g3 l3)))
theorem lcb_39 {p : Program} {l : Launch} {e : Env} {s : State} {m : MethodId} {args : Array Value} {below : List Frame} {meth : Method} {c : Code} {D : va_G} {B : jm_E} {cells slots : Nat} {Q : State → Prop} {L : Nat} {xs : Nat → Int32} {i : Int32} {h : jm_H} {W : fw_W} (C : lw_C p s m args meth c D B L xs) (hi : lw_at L i) (hc : cells ≤ room_1.cells ∧ slots ≤ room_1.slots) (hg : fw_gh W fw_T h) (hl : li W) (next : ∀ (h2 : jm_H) (W2 : fw_W), fw_gh W2 fw_T h2 → li W2 → jm_W p l e room_1 s m args below meth c 4 D B cells slots Q 1345 (lw_lv i) [] h2) : jm_W p l e room_1 s m args below meth c 4 D B cells slots Q 1325 (lw_lv i) [] h := by
  refine lw_p C ld_1325 rfl ?_
  refine lw_p C ld_1326 rfl ?_
  refine lw_p C ld_1327 rfl ?_
  refine lw_p C ld_1328 rfl ?_
  refine lw_p C ld_1329 rfl ?_
  refine lw_ld C ld_1330 (lw_ix hi _ (by decide) (by decide)) ?_
  refine lw_p C ld_1331 rfl ?_
  refine lw_p C ld_1332 rfl ?_
  refine lw_p C ld_1333 rfl ?_
  refine lw_p C ld_1334 rfl ?_
  refine lw_ld C ld_1335 (lw_ix hi _ (by decide) (by decide)) ?_
  refine lw_p C ld_1336 rfl ?_
  refine lw_p C ld_1337 rfl ?_
  refine lw_p C ld_1338 rfl ?_
  refine lw_p C ld_1339 rfl ?_
  refine lw_ld C ld_1340 (lw_ix hi _ (by decide) (by decide)) ?_
  obtain ⟨fs, hca⟩ := lw_o1 hg
  refine lw_cv C (a := 352) (as := [.inl (xs (i + Int32.ofInt 1).toNatClampNeg).toInt, .inl (xs (i + Int32.ofInt 2).toNatClampNeg).toInt, .inl (xs (i + Int32.ofInt 3).toNatClampNeg).toInt]) (asc := [.int (xs (i + Int32.ofInt 1).toNatClampNeg), .int (xs (i + Int32.ofInt 2).toNatClampNeg), .int (xs (i + Int32.ofInt 3).toNatClampNeg)]) (r := []) lq_310 ln_310 lk_310 lz_310 rfl ld_1341 (um_mended (lw_r _) (lw_r _) (lw_r _) hl) (by decide) (⟨⟨_, rfl, rfl⟩, ⟨⟨_, rfl, rfl⟩, ⟨⟨_, rfl, rfl⟩, trivial⟩⟩⟩) hg rfl (by decide) (Nat.le_of_ble_eq_true rfl) hca hc (fun v h2 a2 W2 o2 g2 p2 => ?_)
  obtain ⟨n2, rfl, -⟩ := lw_an p2.1 o2
  refine lw_p C ld_1344 rfl ?_
  exact next h2 W2 g2 p2.2
theorem lca_39 {p : Program} {l : Launch} {e : Env} {s : State} {m : MethodId} {args : Array Value} {below : List Frame} {meth : Method} {c : Code} {D : va_G} {B : jm_E} {cells slots : Nat} {Q : State → Prop} {L : Nat} {xs : Nat → Int32} {i : Int32} {h : jm_H} {W : fw_W} (C : lw_C p s m args meth c D B L xs) (hi : lw_at L i) (hc : cells ≤ room_1.cells ∧ slots ≤ room_1.slots) (hg : fw_gh W fw_T h) (hl : li W) (next : ∀ (h2 : jm_H) (W2 : fw_W), fw_gh W2 fw_T h2 → li W2 → jm_W p l e room_1 s m args below meth c 4 D B cells slots Q 1325 (lw_lv i) [] h2) : jm_W p l e room_1 s m args below meth c 4 D B cells slots Q 1305 (lw_lv i) [] h := by
  refine lw_p C ld_1305 rfl ?_
  refine lw_p C ld_1306 rfl ?_
  refine lw_p C ld_1307 rfl ?_
  refine lw_p C ld_1308 rfl ?_
  refine lw_p C ld_1309 rfl ?_
  refine lw_ld C ld_1310 (lw_ix hi _ (by decide) (by decide)) ?_
  refine lw_p C ld_1311 rfl ?_
  refine lw_p C ld_1312 rfl ?_
  refine lw_p C ld_1313 rfl ?_
  refine lw_p C ld_1314 rfl ?_
  refine lw_ld C ld_1315 (lw_ix hi _ (by decide) (by decide)) ?_
  refine lw_p C ld_1316 rfl ?_
  refine lw_p C ld_1317 rfl ?_
  refine lw_p C ld_1318 rfl ?_
  refine lw_p C ld_1319 rfl ?_
  refine lw_ld C ld_1320 (lw_ix hi _ (by decide) (by decide)) ?_
  obtain ⟨fs, hca⟩ := lw_o0 hg
  refine lw_cv C (a := 0) (as := [.inl (xs (i + Int32.ofInt 1).toNatClampNeg).toInt, .inl (xs (i + Int32.ofInt 2).toNatClampNeg).toInt, .inl (xs (i + Int32.ofInt 3).toNatClampNeg).toInt]) (asc := [.int (xs (i + Int32.ofInt 1).toNatClampNeg), .int (xs (i + Int32.ofInt 2).toNatClampNeg), .int (xs (i + Int32.ofInt 3).toNatClampNeg)]) (r := []) lq_183 ln_183 lk_183 lz_183 rfl ld_1321 (uk_mended (lw_r _) (lw_r _) (lw_r _) hl) (by decide) (⟨⟨_, rfl, rfl⟩, ⟨⟨_, rfl, rfl⟩, ⟨⟨_, rfl, rfl⟩, trivial⟩⟩⟩) hg rfl (by decide) (Nat.le_of_ble_eq_true rfl) hca hc (fun v h2 a2 W2 o2 g2 p2 => ?_)
  obtain ⟨n2, rfl, -⟩ := lw_an p2.1 o2
  refine lw_p C ld_1324 rfl ?_
  exact next h2 W2 g2 p2.2
theorem lc_39 {p : Program} {l : Launch} {e : Env} {s : State} {m : MethodId} {args : Array Value} {below : List Frame} {meth : Method} {c : Code} {D : va_G} {B : jm_E} {cells slots : Nat} {Q : State → Prop} {L : Nat} {xs : Nat → Int32} {i : Int32} {h : jm_H} {W : fw_W} (C : lw_C p s m args meth c D B L xs) (hi : lw_at L i) (hc : cells ≤ room_1.cells ∧ slots ≤ room_1.slots) (hg : fw_gh W fw_T h) (hl : li W) (next : ∀ (h2 : jm_H) (W2 : fw_W), fw_gh W2 fw_T h2 → li W2 → jm_W p l e room_1 s m args below meth c 4 D B cells slots Q 1417 (lw_lv i) [] h2) : jm_W p l e room_1 s m args below meth c 4 D B cells slots Q 1305 (lw_lv i) [] h := lca_39 C hi hc hg hl (fun h2 W2 g2 l2 => lcb_39 C hi hc g2 l2 (fun h3 W3 g3 l3 => lw_p C ld_1345 rfl (next h3 W3 g3 l3)))
theorem lcb_40 {p : Program} {l : Launch} {e : Env} {s : State} {m : MethodId} {args : Array Value} {below : List Frame} {meth : Method} {c : Code} {D : va_G} {B : jm_E} {cells slots : Nat} {Q : State → Prop} {L : Nat} {xs : Nat → Int32} {i : Int32} {h : jm_H} {W : fw_W} (C : lw_C p s m args meth c D B L xs) (hi : lw_at L i) (hc : cells ≤ room_1.cells ∧ slots ≤ room_1.slots) (hg : fw_gh W fw_T h) (hl : li W) (next : ∀ (h2 : jm_H) (W2 : fw_W), fw_gh W2 fw_T h2 → li W2 → jm_W p l e room_1 s m args below meth c 4 D B cells slots Q 1368 (lw_lv i) [] h2) : jm_W p l e room_1 s m args below meth c 4 D B cells slots Q 1358 (lw_lv i) [] h := by
  refine lw_p C ld_1358 rfl ?_
  refine lw_p C ld_1359 rfl ?_
  refine lw_p C ld_1360 rfl ?_
  refine lw_p C ld_1361 rfl ?_
  refine lw_p C ld_1362 rfl ?_
  refine lw_ld C ld_1363 (lw_ix hi _ (by decide) (by decide)) ?_
  obtain ⟨fs, hca⟩ := lw_o1 hg
  refine lw_cv C (a := 352) (as := [.inl (xs (i + Int32.ofInt 1).toNatClampNeg).toInt]) (asc := [.int (xs (i + Int32.ofInt 1).toNatClampNeg)]) (r := []) lq_312 ln_312 lk_312 lz_312 rfl ld_1364 (um_image (lw_r _) hl) (by decide) (⟨⟨_, rfl, rfl⟩, trivial⟩) hg rfl (by decide) (Nat.le_of_ble_eq_true rfl) hca hc (fun v h2 a2 W2 o2 g2 p2 => ?_)
  obtain ⟨n2, rfl, -⟩ := lw_an p2.1 o2
  refine lw_p C ld_1367 rfl ?_
  exact next h2 W2 g2 p2.2
theorem lca_40 {p : Program} {l : Launch} {e : Env} {s : State} {m : MethodId} {args : Array Value} {below : List Frame} {meth : Method} {c : Code} {D : va_G} {B : jm_E} {cells slots : Nat} {Q : State → Prop} {L : Nat} {xs : Nat → Int32} {i : Int32} {h : jm_H} {W : fw_W} (C : lw_C p s m args meth c D B L xs) (hi : lw_at L i) (hc : cells ≤ room_1.cells ∧ slots ≤ room_1.slots) (hg : fw_gh W fw_T h) (hl : li W) (next : ∀ (h2 : jm_H) (W2 : fw_W), fw_gh W2 fw_T h2 → li W2 → jm_W p l e room_1 s m args below meth c 4 D B cells slots Q 1358 (lw_lv i) [] h2) : jm_W p l e room_1 s m args below meth c 4 D B cells slots Q 1348 (lw_lv i) [] h := by
  refine lw_p C ld_1348 rfl ?_
  refine lw_p C ld_1349 rfl ?_
  refine lw_p C ld_1350 rfl ?_
  refine lw_p C ld_1351 rfl ?_
  refine lw_p C ld_1352 rfl ?_
  refine lw_ld C ld_1353 (lw_ix hi _ (by decide) (by decide)) ?_
  obtain ⟨fs, hca⟩ := lw_o0 hg
  refine lw_cv C (a := 0) (as := [.inl (xs (i + Int32.ofInt 1).toNatClampNeg).toInt]) (asc := [.int (xs (i + Int32.ofInt 1).toNatClampNeg)]) (r := []) lq_159 ln_159 lk_159 lz_159 rfl ld_1354 (uk_image (lw_r _) hl) (by decide) (⟨⟨_, rfl, rfl⟩, trivial⟩) hg rfl (by decide) (Nat.le_of_ble_eq_true rfl) hca hc (fun v h2 a2 W2 o2 g2 p2 => ?_)
  obtain ⟨n2, rfl, -⟩ := lw_an p2.1 o2
  refine lw_p C ld_1357 rfl ?_
  exact next h2 W2 g2 p2.2
theorem lc_40 {p : Program} {l : Launch} {e : Env} {s : State} {m : MethodId} {args : Array Value} {below : List Frame} {meth : Method} {c : Code} {D : va_G} {B : jm_E} {cells slots : Nat} {Q : State → Prop} {L : Nat} {xs : Nat → Int32} {i : Int32} {h : jm_H} {W : fw_W} (C : lw_C p s m args meth c D B L xs) (hi : lw_at L i) (hc : cells ≤ room_1.cells ∧ slots ≤ room_1.slots) (hg : fw_gh W fw_T h) (hl : li W) (next : ∀ (h2 : jm_H) (W2 : fw_W), fw_gh W2 fw_T h2 → li W2 → jm_W p l e room_1 s m args below meth c 4 D B cells slots Q 1417 (lw_lv i) [] h2) : jm_W p l e room_1 s m args below meth c 4 D B cells slots Q 1348 (lw_lv i) [] h := lca_40 C hi hc hg hl (fun h2 W2 g2 l2 => lcb_40 C hi hc g2 l2 (fun h3 W3 g3 l3 => lw_p C ld_1368 rfl (next h3 W3 g3 l3)))
theorem lcb_41 {p : Program} {l : Launch} {e : Env} {s : State} {m : MethodId} {args : Array Value} {below : List Frame} {meth : Method} {c : Code} {D : va_G} {B : jm_E} {cells slots : Nat} {Q : State → Prop} {L : Nat} {xs : Nat → Int32} {i : Int32} {h : jm_H} {W : fw_W} (C : lw_C p s m args meth c D B L xs) (hi : lw_at L i) (hc : cells ≤ room_1.cells ∧ slots ≤ room_1.slots) (hg : fw_gh W fw_T h) (hl : li W) (next : ∀ (h2 : jm_H) (W2 : fw_W), fw_gh W2 fw_T h2 → li W2 → jm_W p l e room_1 s m args below meth c 4 D B cells slots Q 1391 (lw_lv i) [] h2) : jm_W p l e room_1 s m args below meth c 4 D B cells slots Q 1381 (lw_lv i) [] h := by
  refine lw_p C ld_1381 rfl ?_
  refine lw_p C ld_1382 rfl ?_
  refine lw_p C ld_1383 rfl ?_
  refine lw_p C ld_1384 rfl ?_
  refine lw_p C ld_1385 rfl ?_
  refine lw_ld C ld_1386 (lw_ix hi _ (by decide) (by decide)) ?_
  obtain ⟨fs, hca⟩ := lw_o1 hg
  refine lw_cv C (a := 352) (as := [.inl (xs (i + Int32.ofInt 1).toNatClampNeg).toInt]) (asc := [.int (xs (i + Int32.ofInt 1).toNatClampNeg)]) (r := []) lq_313 ln_313 lk_313 lz_313 rfl ld_1387 (um_back (lw_r _) hl) (by decide) (⟨⟨_, rfl, rfl⟩, trivial⟩) hg rfl (by decide) (Nat.le_of_ble_eq_true rfl) hca hc (fun v h2 a2 W2 o2 g2 p2 => ?_)
  obtain ⟨n2, rfl, -⟩ := lw_an p2.1 o2
  refine lw_p C ld_1390 rfl ?_
  exact next h2 W2 g2 p2.2
theorem lca_41 {p : Program} {l : Launch} {e : Env} {s : State} {m : MethodId} {args : Array Value} {below : List Frame} {meth : Method} {c : Code} {D : va_G} {B : jm_E} {cells slots : Nat} {Q : State → Prop} {L : Nat} {xs : Nat → Int32} {i : Int32} {h : jm_H} {W : fw_W} (C : lw_C p s m args meth c D B L xs) (hi : lw_at L i) (hc : cells ≤ room_1.cells ∧ slots ≤ room_1.slots) (hg : fw_gh W fw_T h) (hl : li W) (next : ∀ (h2 : jm_H) (W2 : fw_W), fw_gh W2 fw_T h2 → li W2 → jm_W p l e room_1 s m args below meth c 4 D B cells slots Q 1381 (lw_lv i) [] h2) : jm_W p l e room_1 s m args below meth c 4 D B cells slots Q 1371 (lw_lv i) [] h := by
  refine lw_p C ld_1371 rfl ?_
  refine lw_p C ld_1372 rfl ?_
  refine lw_p C ld_1373 rfl ?_
  refine lw_p C ld_1374 rfl ?_
  refine lw_p C ld_1375 rfl ?_
  refine lw_ld C ld_1376 (lw_ix hi _ (by decide) (by decide)) ?_
  obtain ⟨fs, hca⟩ := lw_o0 hg
  refine lw_cv C (a := 0) (as := [.inl (xs (i + Int32.ofInt 1).toNatClampNeg).toInt]) (asc := [.int (xs (i + Int32.ofInt 1).toNatClampNeg)]) (r := []) lq_160 ln_160 lk_160 lz_160 rfl ld_1377 (uk_back (lw_r _) hl) (by decide) (⟨⟨_, rfl, rfl⟩, trivial⟩) hg rfl (by decide) (Nat.le_of_ble_eq_true rfl) hca hc (fun v h2 a2 W2 o2 g2 p2 => ?_)
  obtain ⟨n2, rfl, -⟩ := lw_an p2.1 o2
  refine lw_p C ld_1380 rfl ?_
  exact next h2 W2 g2 p2.2
theorem lc_41 {p : Program} {l : Launch} {e : Env} {s : State} {m : MethodId} {args : Array Value} {below : List Frame} {meth : Method} {c : Code} {D : va_G} {B : jm_E} {cells slots : Nat} {Q : State → Prop} {L : Nat} {xs : Nat → Int32} {i : Int32} {h : jm_H} {W : fw_W} (C : lw_C p s m args meth c D B L xs) (hi : lw_at L i) (hc : cells ≤ room_1.cells ∧ slots ≤ room_1.slots) (hg : fw_gh W fw_T h) (hl : li W) (next : ∀ (h2 : jm_H) (W2 : fw_W), fw_gh W2 fw_T h2 → li W2 → jm_W p l e room_1 s m args below meth c 4 D B cells slots Q 1417 (lw_lv i) [] h2) : jm_W p l e room_1 s m args below meth c 4 D B cells slots Q 1371 (lw_lv i) [] h := lca_41 C hi hc hg hl (fun h2 W2 g2 l2 => lcb_41 C hi hc g2 l2 (fun h3 W3 g3 l3 => lw_p C ld_1391 rfl (next h3 W3 g3 l3)))
theorem lcb_42 {p : Program} {l : Launch} {e : Env} {s : State} {m : MethodId} {args : Array Value} {below : List Frame} {meth : Method} {c : Code} {D : va_G} {B : jm_E} {cells slots : Nat} {Q : State → Prop} {L : Nat} {xs : Nat → Int32} {i : Int32} {h : jm_H} {W : fw_W} (C : lw_C p s m args meth c D B L xs) (hi : lw_at L i) (hc : cells ≤ room_1.cells ∧ slots ≤ room_1.slots) (hg : fw_gh W fw_T h) (hl : li W) (next : ∀ (h2 : jm_H) (W2 : fw_W), fw_gh W2 fw_T h2 → li W2 → jm_W p l e room_1 s m args below meth c 4 D B cells slots Q 1414 (lw_lv i) [] h2) : jm_W p l e room_1 s m args below meth c 4 D B cells slots Q 1404 (lw_lv i) [] h := by
  refine lw_p C ld_1404 rfl ?_
  refine lw_p C ld_1405 rfl ?_
  refine lw_p C ld_1406 rfl ?_
  refine lw_p C ld_1407 rfl ?_
  refine lw_p C ld_1408 rfl ?_
  refine lw_ld C ld_1409 (lw_ix hi _ (by decide) (by decide)) ?_
  obtain ⟨fs, hca⟩ := lw_o1 hg
  refine lw_cv C (a := 352) (as := [.inl (xs (i + Int32.ofInt 1).toNatClampNeg).toInt]) (asc := [.int (xs (i + Int32.ofInt 1).toNatClampNeg)]) (r := []) lq_314 ln_314 lk_314 lz_314 rfl ld_1410 (um_about (lw_r _) hl) (by decide) (⟨⟨_, rfl, rfl⟩, trivial⟩) hg rfl (by decide) (Nat.le_of_ble_eq_true rfl) hca hc (fun v h2 a2 W2 o2 g2 p2 => ?_)
  obtain ⟨n2, rfl, -⟩ := lw_an p2.1 o2
  refine lw_p C ld_1413 rfl ?_
  exact next h2 W2 g2 p2.2
theorem lca_42 {p : Program} {l : Launch} {e : Env} {s : State} {m : MethodId} {args : Array Value} {below : List Frame} {meth : Method} {c : Code} {D : va_G} {B : jm_E} {cells slots : Nat} {Q : State → Prop} {L : Nat} {xs : Nat → Int32} {i : Int32} {h : jm_H} {W : fw_W} (C : lw_C p s m args meth c D B L xs) (hi : lw_at L i) (hc : cells ≤ room_1.cells ∧ slots ≤ room_1.slots) (hg : fw_gh W fw_T h) (hl : li W) (next : ∀ (h2 : jm_H) (W2 : fw_W), fw_gh W2 fw_T h2 → li W2 → jm_W p l e room_1 s m args below meth c 4 D B cells slots Q 1404 (lw_lv i) [] h2) : jm_W p l e room_1 s m args below meth c 4 D B cells slots Q 1394 (lw_lv i) [] h := by
  refine lw_p C ld_1394 rfl ?_
  refine lw_p C ld_1395 rfl ?_
  refine lw_p C ld_1396 rfl ?_
  refine lw_p C ld_1397 rfl ?_
  refine lw_p C ld_1398 rfl ?_
  refine lw_ld C ld_1399 (lw_ix hi _ (by decide) (by decide)) ?_
  obtain ⟨fs, hca⟩ := lw_o0 hg
  refine lw_cv C (a := 0) (as := [.inl (xs (i + Int32.ofInt 1).toNatClampNeg).toInt]) (asc := [.int (xs (i + Int32.ofInt 1).toNatClampNeg)]) (r := []) lq_184 ln_184 lk_184 lz_184 rfl ld_1400 (uk_about (lw_r _) hl) (by decide) (⟨⟨_, rfl, rfl⟩, trivial⟩) hg rfl (by decide) (Nat.le_of_ble_eq_true rfl) hca hc (fun v h2 a2 W2 o2 g2 p2 => ?_)
  obtain ⟨n2, rfl, -⟩ := lw_an p2.1 o2
  refine lw_p C ld_1403 rfl ?_
  exact next h2 W2 g2 p2.2
theorem lc_42 {p : Program} {l : Launch} {e : Env} {s : State} {m : MethodId} {args : Array Value} {below : List Frame} {meth : Method} {c : Code} {D : va_G} {B : jm_E} {cells slots : Nat} {Q : State → Prop} {L : Nat} {xs : Nat → Int32} {i : Int32} {h : jm_H} {W : fw_W} (C : lw_C p s m args meth c D B L xs) (hi : lw_at L i) (hc : cells ≤ room_1.cells ∧ slots ≤ room_1.slots) (hg : fw_gh W fw_T h) (hl : li W) (next : ∀ (h2 : jm_H) (W2 : fw_W), fw_gh W2 fw_T h2 → li W2 → jm_W p l e room_1 s m args below meth c 4 D B cells slots Q 1417 (lw_lv i) [] h2) : jm_W p l e room_1 s m args below meth c 4 D B cells slots Q 1394 (lw_lv i) [] h := lca_42 C hi hc hg hl (fun h2 W2 g2 l2 => lcb_42 C hi hc g2 l2 (fun h3 W3 g3 l3 => lw_p C ld_1414 rfl (next h3 W3 g3 l3)))
