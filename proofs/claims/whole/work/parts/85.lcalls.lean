/-! the law's 24 calls (laid by program) -/
def lwX (xs : Nat → Int32) (j : Int) : Int := (xs j.toNat).toInt
theorem lwX_in (xs : Nat → Int32) (j : Int) : hIn (lwX xs j) := hIn_toInt _
theorem inv_self {S S1 : hS} {c : Int} (h3 : S1 10 = S 10) (h : Inv (gset S1 10 (S 10)) c) : Inv S1 c := by
  rw [← h3, gset_self] at h
  exact h
theorem inv_mono {S : hS} {c : Int} (h : Inv S c) : Inv S (c + 1) := by
  obtain ⟨h1, h2, h3, h4, h5, h6⟩ := h
  exact ⟨h1, his_same h2 (fun _ _ _ => rfl) rfl rfl (by omega), h3, h4, by omega, by omega⟩
section
variable {D : va_G} {ad : Nat → Nat → Nat} {cI cJ cF : ClassId} {S : hS}
variable {p : Program} {l : Launch} {e : Env} {s : State} {m : MethodId} {args : Array Value} {below : List Frame} {meth : Method} {c : Code} {H : Heap} {locs : List Loc} {Q : State → Prop}
variable {pc : Nat} {ls : Array Slot} {rest : List Value} {b L : Nat} {xs : Nat → Int32} {i k : Int}
/-- what stands at a call of the law's loop -/
def lwC (D : va_G) (ad : Nat → Nat → Nat) (cI cJ cF : ClassId) (p : Program) (s : State) (m : MethodId) (args : Array Value) (meth : Method) (c : Code) (b L : Nat) (xs : Nat → Int32) (ls : Array Slot) (i : Int) : Prop :=
  hE D ad cI cJ cF p s m args meth c "HintedStemsLaw" code 4 ret ∧ va_X b L xs s s.heap ∧ b < s.heap.size ∧ ¬ hAd ad b ∧ (0 ≤ i ∧ i + 5 ≤ L) ∧ L ≤ 2560 ∧ lv_has ls 4 [(3, .int (hI i)), (2, .ref (ad 10 0)), (1, .ref (ad 11 0)), (0, .ref b)]
theorem lw_arg (X : lwC D ad cI cJ cF p s m args meth c b L xs ls i) (hh : hH D ad cI cJ cF S s H locs) {n : Int} (hn : 0 ≤ n ∧ n < 5) (d0 : decode code pc = .ok (.aload_n 0, 1)) (d1 : decode code (pc + 1) = .ok (.iload_n 3, 1)) (d2 : decode code (pc + 2) = .ok (.iconst n, 1)) (d3 : decode code (pc + 3) = .ok (.iadd, 1)) (d4 : decode code (pc + 4) = .ok (.iaload, 1))
    (kk : W p l e room_1 s m args below meth c H locs 600000 7302250 Q (F0 m (pc + 5) ls (.int (hI (lwX xs (i + n))) :: rest))) : W p l e room_1 s m args below meth c H locs 600000 7302250 Q (F0 m pc ls rest) := by
  obtain ⟨⟨hx, hb, -⟩, hX, hbl, hbA, hi, hL, hl⟩ := X
  refine lv_aload_n hx hb d0 rfl (lv_at hl 3 rfl) ?_
  refine lv_iload_n hx hb d1 rfl (lv_at hl 0 rfl) ?_
  refine iv_iconst hx hb d2 ?_
  refine iv_iadd hx hb d3 ?_
  obtain ⟨h1, h2⟩ := hI_ix (k := i + n) (n := L) (by omega) (by omega)
  refine va_sld hx hb hX hbl hbA hh.2.2 h1 d4 ?_
  rw [h2]
  unfold lwX at kk
  rw [hI_of] at kk
  exact kk
set_option maxHeartbeats 4000000 in
set_option maxRecDepth 100000 in
theorem lc_glyph (X : lwC D ad cI cJ cF p s m args meth c b L xs ls i) (hh : hH D ad cI cJ cF S s H locs) (hv : Inv S k) (hk : k ≤ 512)
    (K : ∀ (S1 : hS) (H1 : Heap) (locs1 : List Loc), hH D ad cI cJ cF S1 s H1 locs1 → Inv S1 (k + 1) → W p l e room_1 s m args below meth c H1 locs1 600000 7302250 Q (F0 m 856 ls [])) : W p l e room_1 s m args below meth c H locs 600000 7302250 Q (F0 m 144 ls []) := by
  have X0 := X
  obtain ⟨E, -, -, -, -, -, hl⟩ := X0
  obtain ⟨hx, hb, hml, hown, hts, hK, hN, hinj, hr, hlk⟩ := id E
  obtain ⟨b1, b2, b3, b4, b5⟩ := bt_glyph hv (lwX xs (i + 1))
  refine lv_aload_n hx hb dL_144 rfl (lv_at hl 2 rfl) ?_
  refine lw_arg X hh (n := 1) ⟨by decide, by decide⟩ dL_145 dL_146 dL_147 dL_148 dL_149 ?_
  refine iv_ki (iv_rV (As := [.int (hI (lwX xs (i + 1)))]) (rest := []) E hh (ok_X5_glyph l hinj S (lwX xs (i + 1)) (lwX_in _ _) b1) cb_X5_glyph q1_217 rfl rfl ⟨Nat.le_of_ble_eq_true rfl, Nat.le_of_ble_eq_true rfl⟩ ob_X rfl rfl rfl hl.1 rfl (Nat.le_of_ble_eq_true rfl) dL_150 ⟨Nat.le_of_ble_eq_true rfl, Nat.le_of_ble_eq_true rfl⟩) hh (fun hc1 H locs hh => ?_)
  refine lv_aload_n hx hb dL_153 rfl (lv_at hl 1 rfl) ?_
  refine lw_arg X hh (n := 1) ⟨by decide, by decide⟩ dL_154 dL_155 dL_156 dL_157 dL_158 ?_
  refine iv_ki (iv_rV (As := [.int (hI (lwX xs (i + 1)))]) (rest := [.int (hI _)]) E hh (ok_X6_glyph l hinj _ _ b3 (lwX xs (i + 1)) (lwX_in _ _) b4) cb_X6_glyph q3_212 rfl rfl ⟨Nat.le_of_ble_eq_true rfl, Nat.le_of_ble_eq_true rfl⟩ ob_Model rfl rfl rfl hl.1 rfl (Nat.le_of_ble_eq_true rfl) dL_159 ⟨Nat.le_of_ble_eq_true rfl, Nat.le_of_ble_eq_true rfl⟩) hh (fun hc2 H locs hh => ?_)
  exact iv_icmp_eq (tgt := 856) hx hb hc1 hc2 dL_162 (by decide) (fun _ => K _ _ _ hh b5) (fun q => absurd b2 q)
set_option maxHeartbeats 4000000 in
set_option maxRecDepth 100000 in
theorem lc_stem (X : lwC D ad cI cJ cF p s m args meth c b L xs ls i) (hh : hH D ad cI cJ cF S s H locs) (hv : Inv S k) (hk : k ≤ 512)
    (K : ∀ (S1 : hS) (H1 : Heap) (locs1 : List Loc), hH D ad cI cJ cF S1 s H1 locs1 → Inv S1 (k + 1) → W p l e room_1 s m args below meth c H1 locs1 600000 7302250 Q (F0 m 856 ls [])) : W p l e room_1 s m args below meth c H locs 600000 7302250 Q (F0 m 167 ls []) := by
  have X0 := X
  obtain ⟨E, -, -, -, -, -, hl⟩ := X0
  obtain ⟨hx, hb, hml, hown, hts, hK, hN, hinj, hr, hlk⟩ := id E
  obtain ⟨b1, b2, b3, b4, b5⟩ := bt_stem hv (lwX xs (i + 1)) (lwX xs (i + 2)) (lwX xs (i + 3))
  refine lv_aload_n hx hb dL_167 rfl (lv_at hl 2 rfl) ?_
  refine lw_arg X hh (n := 1) ⟨by decide, by decide⟩ dL_168 dL_169 dL_170 dL_171 dL_172 ?_
  refine lw_arg X hh (n := 2) ⟨by decide, by decide⟩ dL_173 dL_174 dL_175 dL_176 dL_177 ?_
  refine lw_arg X hh (n := 3) ⟨by decide, by decide⟩ dL_178 dL_179 dL_180 dL_181 dL_182 ?_
  refine iv_ki (iv_rV (As := [.int (hI (lwX xs (i + 1))), .int (hI (lwX xs (i + 2))), .int (hI (lwX xs (i + 3)))]) (rest := []) E hh (ok_X5_stem l hinj S (lwX xs (i + 1)) (lwX xs (i + 2)) (lwX xs (i + 3)) (lwX_in _ _) (lwX_in _ _) (lwX_in _ _) b1) cb_X5_stem q2_24 rfl rfl ⟨Nat.le_of_ble_eq_true rfl, Nat.le_of_ble_eq_true rfl⟩ ob_X rfl rfl rfl hl.1 rfl (Nat.le_of_ble_eq_true rfl) dL_183 ⟨Nat.le_of_ble_eq_true rfl, Nat.le_of_ble_eq_true rfl⟩) hh (fun hc1 H locs hh => ?_)
  refine lv_aload_n hx hb dL_186 rfl (lv_at hl 1 rfl) ?_
  refine lw_arg X hh (n := 1) ⟨by decide, by decide⟩ dL_187 dL_188 dL_189 dL_190 dL_191 ?_
  refine lw_arg X hh (n := 2) ⟨by decide, by decide⟩ dL_192 dL_193 dL_194 dL_195 dL_196 ?_
  refine lw_arg X hh (n := 3) ⟨by decide, by decide⟩ dL_197 dL_198 dL_199 dL_200 dL_201 ?_
  refine iv_ki (iv_rV (As := [.int (hI (lwX xs (i + 1))), .int (hI (lwX xs (i + 2))), .int (hI (lwX xs (i + 3)))]) (rest := [.int (hI _)]) E hh (ok_X6_stem l hinj _ _ b3 (lwX xs (i + 1)) (lwX xs (i + 2)) (lwX xs (i + 3)) (lwX_in _ _) (lwX_in _ _) (lwX_in _ _) b4) cb_X6_stem q3_225 rfl rfl ⟨Nat.le_of_ble_eq_true rfl, Nat.le_of_ble_eq_true rfl⟩ ob_Model rfl rfl rfl hl.1 rfl (Nat.le_of_ble_eq_true rfl) dL_202 ⟨Nat.le_of_ble_eq_true rfl, Nat.le_of_ble_eq_true rfl⟩) hh (fun hc2 H locs hh => ?_)
  exact iv_icmp_eq (tgt := 856) hx hb hc1 hc2 dL_205 (by decide) (fun _ => K _ _ _ hh b5) (fun q => absurd b2 q)
set_option maxHeartbeats 4000000 in
set_option maxRecDepth 100000 in
theorem lc_cut (X : lwC D ad cI cJ cF p s m args meth c b L xs ls i) (hh : hH D ad cI cJ cF S s H locs) (hv : Inv S k) (hk : k ≤ 512)
    (K : ∀ (S1 : hS) (H1 : Heap) (locs1 : List Loc), hH D ad cI cJ cF S1 s H1 locs1 → Inv S1 (k + 1) → W p l e room_1 s m args below meth c H1 locs1 600000 7302250 Q (F0 m 856 ls [])) : W p l e room_1 s m args below meth c H locs 600000 7302250 Q (F0 m 210 ls []) := by
  have X0 := X
  obtain ⟨E, -, -, -, -, -, hl⟩ := X0
  obtain ⟨hx, hb, hml, hown, hts, hK, hN, hinj, hr, hlk⟩ := id E
  obtain ⟨b1, b2, b3, b4, b5⟩ := bt_cut hv (lwX xs (i + 1)) (lwX xs (i + 2))
  refine lv_aload_n hx hb dL_210 rfl (lv_at hl 2 rfl) ?_
  refine lw_arg X hh (n := 1) ⟨by decide, by decide⟩ dL_211 dL_212 dL_213 dL_214 dL_215 ?_
  refine lw_arg X hh (n := 2) ⟨by decide, by decide⟩ dL_216 dL_217 dL_218 dL_219 dL_220 ?_
  refine iv_ki (iv_rV (As := [.int (hI (lwX xs (i + 1))), .int (hI (lwX xs (i + 2)))]) (rest := []) E hh (ok_X5_cut l hinj S (lwX xs (i + 1)) (lwX xs (i + 2)) (lwX_in _ _) (lwX_in _ _) b1) cb_X5_cut q2_52 rfl rfl ⟨Nat.le_of_ble_eq_true rfl, Nat.le_of_ble_eq_true rfl⟩ ob_X rfl rfl rfl hl.1 rfl (Nat.le_of_ble_eq_true rfl) dL_221 ⟨Nat.le_of_ble_eq_true rfl, Nat.le_of_ble_eq_true rfl⟩) hh (fun hc1 H locs hh => ?_)
  refine lv_aload_n hx hb dL_224 rfl (lv_at hl 1 rfl) ?_
  refine lw_arg X hh (n := 1) ⟨by decide, by decide⟩ dL_225 dL_226 dL_227 dL_228 dL_229 ?_
  refine lw_arg X hh (n := 2) ⟨by decide, by decide⟩ dL_230 dL_231 dL_232 dL_233 dL_234 ?_
  refine iv_ki (iv_rV (As := [.int (hI (lwX xs (i + 1))), .int (hI (lwX xs (i + 2)))]) (rest := [.int (hI _)]) E hh (ok_X6_cut l hinj _ _ b3 (lwX xs (i + 1)) (lwX xs (i + 2)) (lwX_in _ _) (lwX_in _ _) b4) cb_X6_cut q4_13 rfl rfl ⟨Nat.le_of_ble_eq_true rfl, Nat.le_of_ble_eq_true rfl⟩ ob_Model rfl rfl rfl hl.1 rfl (Nat.le_of_ble_eq_true rfl) dL_235 ⟨Nat.le_of_ble_eq_true rfl, Nat.le_of_ble_eq_true rfl⟩) hh (fun hc2 H locs hh => ?_)
  exact iv_icmp_eq (tgt := 856) hx hb hc1 hc2 dL_238 (by decide) (fun _ => K _ _ _ hh b5) (fun q => absurd b2 q)
set_option maxHeartbeats 4000000 in
set_option maxRecDepth 100000 in
theorem lc_hint (X : lwC D ad cI cJ cF p s m args meth c b L xs ls i) (hh : hH D ad cI cJ cF S s H locs) (hv : Inv S k) (hk : k ≤ 512)
    (K : ∀ (S1 : hS) (H1 : Heap) (locs1 : List Loc), hH D ad cI cJ cF S1 s H1 locs1 → Inv S1 (k + 1) → W p l e room_1 s m args below meth c H1 locs1 600000 7302250 Q (F0 m 856 ls [])) : W p l e room_1 s m args below meth c H locs 600000 7302250 Q (F0 m 243 ls []) := by
  have X0 := X
  obtain ⟨E, -, -, -, -, -, hl⟩ := X0
  obtain ⟨hx, hb, hml, hown, hts, hK, hN, hinj, hr, hlk⟩ := id E
  obtain ⟨b1, b2, b3, b4, b5⟩ := bt_hint hv (lwX xs (i + 1)) (lwX xs (i + 2)) (lwX xs (i + 3))
  refine lv_aload_n hx hb dL_243 rfl (lv_at hl 2 rfl) ?_
  refine lw_arg X hh (n := 1) ⟨by decide, by decide⟩ dL_244 dL_245 dL_246 dL_247 dL_248 ?_
  refine lw_arg X hh (n := 2) ⟨by decide, by decide⟩ dL_249 dL_250 dL_251 dL_252 dL_253 ?_
  refine lw_arg X hh (n := 3) ⟨by decide, by decide⟩ dL_254 dL_255 dL_256 dL_257 dL_258 ?_
  refine iv_ki (iv_rV (As := [.int (hI (lwX xs (i + 1))), .int (hI (lwX xs (i + 2))), .int (hI (lwX xs (i + 3)))]) (rest := []) E hh (ok_X5_hint l hinj S (lwX xs (i + 1)) (lwX xs (i + 2)) (lwX xs (i + 3)) (lwX_in _ _) (lwX_in _ _) (lwX_in _ _) b1) cb_X5_hint q2_64 rfl rfl ⟨Nat.le_of_ble_eq_true rfl, Nat.le_of_ble_eq_true rfl⟩ ob_X rfl rfl rfl hl.1 rfl (Nat.le_of_ble_eq_true rfl) dL_259 ⟨Nat.le_of_ble_eq_true rfl, Nat.le_of_ble_eq_true rfl⟩) hh (fun hc1 H locs hh => ?_)
  refine lv_aload_n hx hb dL_262 rfl (lv_at hl 1 rfl) ?_
  refine lw_arg X hh (n := 1) ⟨by decide, by decide⟩ dL_263 dL_264 dL_265 dL_266 dL_267 ?_
  refine lw_arg X hh (n := 2) ⟨by decide, by decide⟩ dL_268 dL_269 dL_270 dL_271 dL_272 ?_
  refine lw_arg X hh (n := 3) ⟨by decide, by decide⟩ dL_273 dL_274 dL_275 dL_276 dL_277 ?_
  refine iv_ki (iv_rV (As := [.int (hI (lwX xs (i + 1))), .int (hI (lwX xs (i + 2))), .int (hI (lwX xs (i + 3)))]) (rest := [.int (hI _)]) E hh (ok_X6_hint l hinj _ _ b3 (lwX xs (i + 1)) (lwX xs (i + 2)) (lwX xs (i + 3)) (lwX_in _ _) (lwX_in _ _) (lwX_in _ _) b4) cb_X6_hint q4_21 rfl rfl ⟨Nat.le_of_ble_eq_true rfl, Nat.le_of_ble_eq_true rfl⟩ ob_Model rfl rfl rfl hl.1 rfl (Nat.le_of_ble_eq_true rfl) dL_278 ⟨Nat.le_of_ble_eq_true rfl, Nat.le_of_ble_eq_true rfl⟩) hh (fun hc2 H locs hh => ?_)
  exact iv_icmp_eq (tgt := 856) hx hb hc1 hc2 dL_281 (by decide) (fun _ => K _ _ _ hh b5) (fun q => absurd b2 q)
set_option maxHeartbeats 4000000 in
set_option maxRecDepth 100000 in
theorem lc_standard (X : lwC D ad cI cJ cF p s m args meth c b L xs ls i) (hh : hH D ad cI cJ cF S s H locs) (hv : Inv S k) (hk : k ≤ 512)
    (K : ∀ (S1 : hS) (H1 : Heap) (locs1 : List Loc), hH D ad cI cJ cF S1 s H1 locs1 → Inv S1 (k + 1) → W p l e room_1 s m args below meth c H1 locs1 600000 7302250 Q (F0 m 856 ls [])) : W p l e room_1 s m args below meth c H locs 600000 7302250 Q (F0 m 286 ls []) := by
  have X0 := X
  obtain ⟨E, -, -, -, -, -, hl⟩ := X0
  obtain ⟨hx, hb, hml, hown, hts, hK, hN, hinj, hr, hlk⟩ := id E
  obtain ⟨b1, b2, b3, b4, b5⟩ := bt_standard hv (lwX xs (i + 1))
  refine lv_aload_n hx hb dL_286 rfl (lv_at hl 2 rfl) ?_
  refine lw_arg X hh (n := 1) ⟨by decide, by decide⟩ dL_287 dL_288 dL_289 dL_290 dL_291 ?_
  refine iv_ki (iv_rV (As := [.int (hI (lwX xs (i + 1)))]) (rest := []) E hh (ok_X5_standard l hinj S (lwX xs (i + 1)) (lwX_in _ _) b1) cb_X5_standard q2_72 rfl rfl ⟨Nat.le_of_ble_eq_true rfl, Nat.le_of_ble_eq_true rfl⟩ ob_X rfl rfl rfl hl.1 rfl (Nat.le_of_ble_eq_true rfl) dL_292 ⟨Nat.le_of_ble_eq_true rfl, Nat.le_of_ble_eq_true rfl⟩) hh (fun hc1 H locs hh => ?_)
  refine lv_aload_n hx hb dL_295 rfl (lv_at hl 1 rfl) ?_
  refine lw_arg X hh (n := 1) ⟨by decide, by decide⟩ dL_296 dL_297 dL_298 dL_299 dL_300 ?_
  refine iv_ki (iv_rV (As := [.int (hI (lwX xs (i + 1)))]) (rest := [.int (hI _)]) E hh (ok_X6_standard l hinj _ _ b3 (lwX xs (i + 1)) (lwX_in _ _) b4) cb_X6_standard q4_25 rfl rfl ⟨Nat.le_of_ble_eq_true rfl, Nat.le_of_ble_eq_true rfl⟩ ob_Model rfl rfl rfl hl.1 rfl (Nat.le_of_ble_eq_true rfl) dL_301 ⟨Nat.le_of_ble_eq_true rfl, Nat.le_of_ble_eq_true rfl⟩) hh (fun hc2 H locs hh => ?_)
  exact iv_icmp_eq (tgt := 856) hx hb hc1 hc2 dL_304 (by decide) (fun _ => K _ _ _ hh b5) (fun q => absurd b2 q)
set_option maxHeartbeats 4000000 in
set_option maxRecDepth 100000 in
theorem lc_drop (X : lwC D ad cI cJ cF p s m args meth c b L xs ls i) (hh : hH D ad cI cJ cF S s H locs) (hv : Inv S k) (hk : k ≤ 512)
    (K : ∀ (S1 : hS) (H1 : Heap) (locs1 : List Loc), hH D ad cI cJ cF S1 s H1 locs1 → Inv S1 (k + 1) → W p l e room_1 s m args below meth c H1 locs1 600000 7302250 Q (F0 m 856 ls [])) : W p l e room_1 s m args below meth c H locs 600000 7302250 Q (F0 m 309 ls []) := by
  have X0 := X
  obtain ⟨E, -, -, -, -, -, hl⟩ := X0
  obtain ⟨hx, hb, hml, hown, hts, hK, hN, hinj, hr, hlk⟩ := id E
  obtain ⟨b1, b2, b3, b4, b5⟩ := bt_drop hv (lwX xs (i + 1))
  refine lv_aload_n hx hb dL_309 rfl (lv_at hl 2 rfl) ?_
  refine lw_arg X hh (n := 1) ⟨by decide, by decide⟩ dL_310 dL_311 dL_312 dL_313 dL_314 ?_
  refine iv_ki (iv_rV (As := [.int (hI (lwX xs (i + 1)))]) (rest := []) E hh (ok_X5_drop l hinj S (lwX xs (i + 1)) (lwX_in _ _) b1) cb_X5_drop q2_95 rfl rfl ⟨Nat.le_of_ble_eq_true rfl, Nat.le_of_ble_eq_true rfl⟩ ob_X rfl rfl rfl hl.1 rfl (Nat.le_of_ble_eq_true rfl) dL_315 ⟨Nat.le_of_ble_eq_true rfl, Nat.le_of_ble_eq_true rfl⟩) hh (fun hc1 H locs hh => ?_)
  refine lv_aload_n hx hb dL_318 rfl (lv_at hl 1 rfl) ?_
  refine lw_arg X hh (n := 1) ⟨by decide, by decide⟩ dL_319 dL_320 dL_321 dL_322 dL_323 ?_
  refine iv_ki (iv_rV (As := [.int (hI (lwX xs (i + 1)))]) (rest := [.int (hI _)]) E hh (ok_X6_drop l hinj _ _ b3 (lwX xs (i + 1)) (lwX_in _ _) b4) cb_X6_drop q4_41 rfl rfl ⟨Nat.le_of_ble_eq_true rfl, Nat.le_of_ble_eq_true rfl⟩ ob_Model rfl rfl rfl hl.1 rfl (Nat.le_of_ble_eq_true rfl) dL_324 ⟨Nat.le_of_ble_eq_true rfl, Nat.le_of_ble_eq_true rfl⟩) hh (fun hc2 H locs hh => ?_)
  exact iv_icmp_eq (tgt := 856) hx hb hc1 hc2 dL_327 (by decide) (fun _ => K _ _ _ hh b5) (fun q => absurd b2 q)
set_option maxHeartbeats 4000000 in
set_option maxRecDepth 100000 in
theorem lc_make (X : lwC D ad cI cJ cF p s m args meth c b L xs ls i) (hh : hH D ad cI cJ cF S s H locs) (hv : Inv S k) (hk : k ≤ 512)
    (K : ∀ (S1 : hS) (H1 : Heap) (locs1 : List Loc), hH D ad cI cJ cF S1 s H1 locs1 → Inv S1 (k + 1) → W p l e room_1 s m args below meth c H1 locs1 600000 7302250 Q (F0 m 856 ls [])) : W p l e room_1 s m args below meth c H locs 600000 7302250 Q (F0 m 332 ls []) := by
  have X0 := X
  obtain ⟨E, -, -, -, -, -, hl⟩ := X0
  obtain ⟨hx, hb, hml, hown, hts, hK, hN, hinj, hr, hlk⟩ := id E
  obtain ⟨b1, b2, b3, b4, b5⟩ := bt_make hv hk (lwX xs (i + 1))
  refine lv_aload_n hx hb dL_332 rfl (lv_at hl 2 rfl) ?_
  refine lw_arg X hh (n := 1) ⟨by decide, by decide⟩ dL_333 dL_334 dL_335 dL_336 dL_337 ?_
  refine iv_ki (iv_rV (As := [.int (hI (lwX xs (i + 1)))]) (rest := []) E hh (ok_X5_make l hinj S (lwX xs (i + 1)) (lwX_in _ _) b1) cb_X5_make q2_103 rfl rfl ⟨Nat.le_of_ble_eq_true rfl, Nat.le_of_ble_eq_true rfl⟩ ob_X rfl rfl rfl hl.1 rfl (Nat.le_of_ble_eq_true rfl) dL_338 ⟨Nat.le_of_ble_eq_true rfl, Nat.le_of_ble_eq_true rfl⟩) hh (fun hc1 H locs hh => ?_)
  refine lv_aload_n hx hb dL_341 rfl (lv_at hl 1 rfl) ?_
  refine lw_arg X hh (n := 1) ⟨by decide, by decide⟩ dL_342 dL_343 dL_344 dL_345 dL_346 ?_
  refine iv_ki (iv_rV (As := [.int (hI (lwX xs (i + 1)))]) (rest := [.int (hI _)]) E hh (ok_X6_make l hinj _ _ b3 (lwX xs (i + 1)) (lwX_in _ _) b4) cb_X6_make q4_45 rfl rfl ⟨Nat.le_of_ble_eq_true rfl, Nat.le_of_ble_eq_true rfl⟩ ob_Model rfl rfl rfl hl.1 rfl (Nat.le_of_ble_eq_true rfl) dL_347 ⟨Nat.le_of_ble_eq_true rfl, Nat.le_of_ble_eq_true rfl⟩) hh (fun hc2 H locs hh => ?_)
  exact iv_icmp_eq (tgt := 856) hx hb hc1 hc2 dL_350 (by decide) (fun _ => K _ _ _ hh b5) (fun q => absurd b2 q)
set_option maxHeartbeats 4000000 in
set_option maxRecDepth 100000 in
theorem lc_set (X : lwC D ad cI cJ cF p s m args meth c b L xs ls i) (hh : hH D ad cI cJ cF S s H locs) (hv : Inv S k) (hk : k ≤ 512)
    (K : ∀ (S1 : hS) (H1 : Heap) (locs1 : List Loc), hH D ad cI cJ cF S1 s H1 locs1 → Inv S1 (k + 1) → W p l e room_1 s m args below meth c H1 locs1 600000 7302250 Q (F0 m 856 ls [])) : W p l e room_1 s m args below meth c H locs 600000 7302250 Q (F0 m 355 ls []) := by
  have X0 := X
  obtain ⟨E, -, -, -, -, -, hl⟩ := X0
  obtain ⟨hx, hb, hml, hown, hts, hK, hN, hinj, hr, hlk⟩ := id E
  obtain ⟨b1, b2, b3, b4, b5⟩ := bt_set hv (lwX xs (i + 1)) (lwX xs (i + 2))
  refine lv_aload_n hx hb dL_355 rfl (lv_at hl 2 rfl) ?_
  refine lw_arg X hh (n := 1) ⟨by decide, by decide⟩ dL_356 dL_357 dL_358 dL_359 dL_360 ?_
  refine lw_arg X hh (n := 2) ⟨by decide, by decide⟩ dL_361 dL_362 dL_363 dL_364 dL_365 ?_
  refine iv_ki (iv_rV (As := [.int (hI (lwX xs (i + 1))), .int (hI (lwX xs (i + 2)))]) (rest := []) E hh (ok_X5_set l hinj S (lwX xs (i + 1)) (lwX xs (i + 2)) (lwX_in _ _) (lwX_in _ _) b1) cb_X5_set q2_177 rfl rfl ⟨Nat.le_of_ble_eq_true rfl, Nat.le_of_ble_eq_true rfl⟩ ob_X rfl rfl rfl hl.1 rfl (Nat.le_of_ble_eq_true rfl) dL_366 ⟨Nat.le_of_ble_eq_true rfl, Nat.le_of_ble_eq_true rfl⟩) hh (fun hc1 H locs hh => ?_)
  refine lv_aload_n hx hb dL_369 rfl (lv_at hl 1 rfl) ?_
  refine lw_arg X hh (n := 1) ⟨by decide, by decide⟩ dL_370 dL_371 dL_372 dL_373 dL_374 ?_
  refine lw_arg X hh (n := 2) ⟨by decide, by decide⟩ dL_375 dL_376 dL_377 dL_378 dL_379 ?_
  refine iv_ki (iv_rV (As := [.int (hI (lwX xs (i + 1))), .int (hI (lwX xs (i + 2)))]) (rest := [.int (hI _)]) E hh (ok_X6_set l hinj _ _ b3 (lwX xs (i + 1)) (lwX xs (i + 2)) (lwX_in _ _) (lwX_in _ _) b4) cb_X6_set q4_98 rfl rfl ⟨Nat.le_of_ble_eq_true rfl, Nat.le_of_ble_eq_true rfl⟩ ob_Model rfl rfl rfl hl.1 rfl (Nat.le_of_ble_eq_true rfl) dL_380 ⟨Nat.le_of_ble_eq_true rfl, Nat.le_of_ble_eq_true rfl⟩) hh (fun hc2 H locs hh => ?_)
  exact iv_icmp_eq (tgt := 856) hx hb hc1 hc2 dL_383 (by decide) (fun _ => K _ _ _ hh b5) (fun q => absurd b2 q)
set_option maxHeartbeats 4000000 in
set_option maxRecDepth 100000 in
theorem lc_stemOf (X : lwC D ad cI cJ cF p s m args meth c b L xs ls i) (hh : hH D ad cI cJ cF S s H locs) (hv : Inv S k) (hk : k ≤ 512)
    (K : ∀ (S1 : hS) (H1 : Heap) (locs1 : List Loc), hH D ad cI cJ cF S1 s H1 locs1 → Inv S1 (k + 1) → W p l e room_1 s m args below meth c H1 locs1 600000 7302250 Q (F0 m 856 ls [])) : W p l e room_1 s m args below meth c H locs 600000 7302250 Q (F0 m 388 ls []) := by
  have X0 := X
  obtain ⟨E, -, -, -, -, -, hl⟩ := X0
  obtain ⟨hx, hb, hml, hown, hts, hK, hN, hinj, hr, hlk⟩ := id E
  obtain ⟨b1, b2, b3, b4, b5⟩ := bt_stemOf hv (lwX xs (i + 1)) (lwX xs (i + 2)) (lwX xs (i + 3))
  refine lv_aload_n hx hb dL_388 rfl (lv_at hl 2 rfl) ?_
  refine lw_arg X hh (n := 1) ⟨by decide, by decide⟩ dL_389 dL_390 dL_391 dL_392 dL_393 ?_
  refine lw_arg X hh (n := 2) ⟨by decide, by decide⟩ dL_394 dL_395 dL_396 dL_397 dL_398 ?_
  refine lw_arg X hh (n := 3) ⟨by decide, by decide⟩ dL_399 dL_400 dL_401 dL_402 dL_403 ?_
  refine iv_ki (iv_rV (As := [.int (hI (lwX xs (i + 1))), .int (hI (lwX xs (i + 2))), .int (hI (lwX xs (i + 3)))]) (rest := []) E hh (ok_X5_stemOf l hinj S (lwX xs (i + 1)) (lwX xs (i + 2)) (lwX xs (i + 3)) (lwX_in _ _) (lwX_in _ _) (lwX_in _ _) b1) cb_X5_stemOf q2_185 rfl rfl ⟨Nat.le_of_ble_eq_true rfl, Nat.le_of_ble_eq_true rfl⟩ ob_X rfl rfl rfl hl.1 rfl (Nat.le_of_ble_eq_true rfl) dL_404 ⟨Nat.le_of_ble_eq_true rfl, Nat.le_of_ble_eq_true rfl⟩) hh (fun hc1 H locs hh => ?_)
  refine lv_aload_n hx hb dL_407 rfl (lv_at hl 1 rfl) ?_
  refine lw_arg X hh (n := 1) ⟨by decide, by decide⟩ dL_408 dL_409 dL_410 dL_411 dL_412 ?_
  refine lw_arg X hh (n := 2) ⟨by decide, by decide⟩ dL_413 dL_414 dL_415 dL_416 dL_417 ?_
  refine lw_arg X hh (n := 3) ⟨by decide, by decide⟩ dL_418 dL_419 dL_420 dL_421 dL_422 ?_
  refine iv_ki (iv_rV (As := [.int (hI (lwX xs (i + 1))), .int (hI (lwX xs (i + 2))), .int (hI (lwX xs (i + 3)))]) (rest := [.int (hI _)]) E hh (ok_X6_stemOf l hinj _ _ b3 (lwX xs (i + 1)) (lwX xs (i + 2)) (lwX xs (i + 3)) (lwX_in _ _) (lwX_in _ _) (lwX_in _ _) b4) cb_X6_stemOf q4_102 rfl rfl ⟨Nat.le_of_ble_eq_true rfl, Nat.le_of_ble_eq_true rfl⟩ ob_Model rfl rfl rfl hl.1 rfl (Nat.le_of_ble_eq_true rfl) dL_423 ⟨Nat.le_of_ble_eq_true rfl, Nat.le_of_ble_eq_true rfl⟩) hh (fun hc2 H locs hh => ?_)
  exact iv_icmp_eq (tgt := 856) hx hb hc1 hc2 dL_426 (by decide) (fun _ => K _ _ _ hh (inv_self b3 b5)) (fun q => absurd b2 q)
set_option maxHeartbeats 4000000 in
set_option maxRecDepth 100000 in
theorem lc_pixels (X : lwC D ad cI cJ cF p s m args meth c b L xs ls i) (hh : hH D ad cI cJ cF S s H locs) (hv : Inv S k) (hk : k ≤ 512)
    (K : ∀ (S1 : hS) (H1 : Heap) (locs1 : List Loc), hH D ad cI cJ cF S1 s H1 locs1 → Inv S1 (k + 1) → W p l e room_1 s m args below meth c H1 locs1 600000 7302250 Q (F0 m 856 ls [])) : W p l e room_1 s m args below meth c H locs 600000 7302250 Q (F0 m 431 ls []) := by
  have X0 := X
  obtain ⟨E, -, -, -, -, -, hl⟩ := X0
  obtain ⟨hx, hb, hml, hown, hts, hK, hN, hinj, hr, hlk⟩ := id E
  obtain ⟨b1, b2, b3, b4, b5⟩ := bt_pixels hv (lwX xs (i + 1)) (lwX xs (i + 2)) (lwX xs (i + 3)) (lwX xs (i + 4))
  refine lv_aload_n hx hb dL_431 rfl (lv_at hl 2 rfl) ?_
  refine lw_arg X hh (n := 1) ⟨by decide, by decide⟩ dL_432 dL_433 dL_434 dL_435 dL_436 ?_
  refine lw_arg X hh (n := 2) ⟨by decide, by decide⟩ dL_437 dL_438 dL_439 dL_440 dL_441 ?_
  refine lw_arg X hh (n := 3) ⟨by decide, by decide⟩ dL_442 dL_443 dL_444 dL_445 dL_446 ?_
  refine lw_arg X hh (n := 4) ⟨by decide, by decide⟩ dL_447 dL_448 dL_449 dL_450 dL_451 ?_
  refine iv_ki (iv_rV (As := [.int (hI (lwX xs (i + 1))), .int (hI (lwX xs (i + 2))), .int (hI (lwX xs (i + 3))), .int (hI (lwX xs (i + 4)))]) (rest := []) E hh (ok_X5_pixels l hinj S (lwX xs (i + 1)) (lwX xs (i + 2)) (lwX xs (i + 3)) (lwX xs (i + 4)) (lwX_in _ _) (lwX_in _ _) (lwX_in _ _) (lwX_in _ _) b1) cb_X5_pixels q2_204 rfl rfl ⟨Nat.le_of_ble_eq_true rfl, Nat.le_of_ble_eq_true rfl⟩ ob_X rfl rfl rfl hl.1 rfl (Nat.le_of_ble_eq_true rfl) dL_452 ⟨Nat.le_of_ble_eq_true rfl, Nat.le_of_ble_eq_true rfl⟩) hh (fun hc1 H locs hh => ?_)
  refine lv_aload_n hx hb dL_455 rfl (lv_at hl 1 rfl) ?_
  refine lw_arg X hh (n := 1) ⟨by decide, by decide⟩ dL_456 dL_457 dL_458 dL_459 dL_460 ?_
  refine lw_arg X hh (n := 2) ⟨by decide, by decide⟩ dL_461 dL_462 dL_463 dL_464 dL_465 ?_
  refine lw_arg X hh (n := 3) ⟨by decide, by decide⟩ dL_466 dL_467 dL_468 dL_469 dL_470 ?_
  refine lw_arg X hh (n := 4) ⟨by decide, by decide⟩ dL_471 dL_472 dL_473 dL_474 dL_475 ?_
  refine iv_ki (iv_rV (As := [.int (hI (lwX xs (i + 1))), .int (hI (lwX xs (i + 2))), .int (hI (lwX xs (i + 3))), .int (hI (lwX xs (i + 4)))]) (rest := [.int (hI _)]) E hh (ok_X6_pixels l hinj _ _ b3 (lwX xs (i + 1)) (lwX xs (i + 2)) (lwX xs (i + 3)) (lwX xs (i + 4)) (lwX_in _ _) (lwX_in _ _) (lwX_in _ _) (lwX_in _ _) b4) cb_X6_pixels q4_110 rfl rfl ⟨Nat.le_of_ble_eq_true rfl, Nat.le_of_ble_eq_true rfl⟩ ob_Model rfl rfl rfl hl.1 rfl (Nat.le_of_ble_eq_true rfl) dL_476 ⟨Nat.le_of_ble_eq_true rfl, Nat.le_of_ble_eq_true rfl⟩) hh (fun hc2 H locs hh => ?_)
  exact iv_icmp_eq (tgt := 856) hx hb hc1 hc2 dL_479 (by decide) (fun _ => K _ _ _ hh b5) (fun q => absurd b2 q)
set_option maxHeartbeats 4000000 in
set_option maxRecDepth 100000 in
theorem lc_glyphOf (X : lwC D ad cI cJ cF p s m args meth c b L xs ls i) (hh : hH D ad cI cJ cF S s H locs) (hv : Inv S k) (hk : k ≤ 512)
    (K : ∀ (S1 : hS) (H1 : Heap) (locs1 : List Loc), hH D ad cI cJ cF S1 s H1 locs1 → Inv S1 (k + 1) → W p l e room_1 s m args below meth c H1 locs1 600000 7302250 Q (F0 m 856 ls [])) : W p l e room_1 s m args below meth c H locs 600000 7302250 Q (F0 m 484 ls []) := by
  have X0 := X
  obtain ⟨E, -, -, -, -, -, hl⟩ := X0
  obtain ⟨hx, hb, hml, hown, hts, hK, hN, hinj, hr, hlk⟩ := id E
  obtain ⟨b1, b2, b3, b4, b5⟩ := bt_glyphOf hv (lwX xs (i + 1)) (lwX xs (i + 2)) (lwX xs (i + 3))
  refine lv_aload_n hx hb dL_484 rfl (lv_at hl 2 rfl) ?_
  refine lw_arg X hh (n := 1) ⟨by decide, by decide⟩ dL_485 dL_486 dL_487 dL_488 dL_489 ?_
  refine lw_arg X hh (n := 2) ⟨by decide, by decide⟩ dL_490 dL_491 dL_492 dL_493 dL_494 ?_
  refine lw_arg X hh (n := 3) ⟨by decide, by decide⟩ dL_495 dL_496 dL_497 dL_498 dL_499 ?_
  refine iv_ki (iv_rV (As := [.int (hI (lwX xs (i + 1))), .int (hI (lwX xs (i + 2))), .int (hI (lwX xs (i + 3)))]) (rest := []) E hh (ok_X5_glyphOf l hinj S (lwX xs (i + 1)) (lwX xs (i + 2)) (lwX xs (i + 3)) (lwX_in _ _) (lwX_in _ _) (lwX_in _ _) b1) cb_X5_glyphOf q2_210 rfl rfl ⟨Nat.le_of_ble_eq_true rfl, Nat.le_of_ble_eq_true rfl⟩ ob_X rfl rfl rfl hl.1 rfl (Nat.le_of_ble_eq_true rfl) dL_500 ⟨Nat.le_of_ble_eq_true rfl, Nat.le_of_ble_eq_true rfl⟩) hh (fun hc1 H locs hh => ?_)
  refine lv_aload_n hx hb dL_503 rfl (lv_at hl 1 rfl) ?_
  refine lw_arg X hh (n := 1) ⟨by decide, by decide⟩ dL_504 dL_505 dL_506 dL_507 dL_508 ?_
  refine lw_arg X hh (n := 2) ⟨by decide, by decide⟩ dL_509 dL_510 dL_511 dL_512 dL_513 ?_
  refine lw_arg X hh (n := 3) ⟨by decide, by decide⟩ dL_514 dL_515 dL_516 dL_517 dL_518 ?_
  refine iv_ki (iv_rV (As := [.int (hI (lwX xs (i + 1))), .int (hI (lwX xs (i + 2))), .int (hI (lwX xs (i + 3)))]) (rest := [.int (hI _)]) E hh (ok_X6_glyphOf l hinj _ _ b3 (lwX xs (i + 1)) (lwX xs (i + 2)) (lwX xs (i + 3)) (lwX_in _ _) (lwX_in _ _) (lwX_in _ _) b4) cb_X6_glyphOf q4_118 rfl rfl ⟨Nat.le_of_ble_eq_true rfl, Nat.le_of_ble_eq_true rfl⟩ ob_Model rfl rfl rfl hl.1 rfl (Nat.le_of_ble_eq_true rfl) dL_519 ⟨Nat.le_of_ble_eq_true rfl, Nat.le_of_ble_eq_true rfl⟩) hh (fun hc2 H locs hh => ?_)
  exact iv_icmp_eq (tgt := 856) hx hb hc1 hc2 dL_522 (by decide) (fun _ => K _ _ _ hh b5) (fun q => absurd b2 q)
set_option maxHeartbeats 4000000 in
set_option maxRecDepth 100000 in
theorem lc_lit (X : lwC D ad cI cJ cF p s m args meth c b L xs ls i) (hh : hH D ad cI cJ cF S s H locs) (hv : Inv S k) (hk : k ≤ 512)
    (K : ∀ (S1 : hS) (H1 : Heap) (locs1 : List Loc), hH D ad cI cJ cF S1 s H1 locs1 → Inv S1 (k + 1) → W p l e room_1 s m args below meth c H1 locs1 600000 7302250 Q (F0 m 856 ls [])) : W p l e room_1 s m args below meth c H locs 600000 7302250 Q (F0 m 527 ls []) := by
  have X0 := X
  obtain ⟨E, -, -, -, -, -, hl⟩ := X0
  obtain ⟨hx, hb, hml, hown, hts, hK, hN, hinj, hr, hlk⟩ := id E
  obtain ⟨b1, b2, b3, b4, b5⟩ := bt_lit hv (lwX xs (i + 1)) (lwX xs (i + 2)) (lwX xs (i + 3))
  refine lv_aload_n hx hb dL_527 rfl (lv_at hl 2 rfl) ?_
  refine lw_arg X hh (n := 1) ⟨by decide, by decide⟩ dL_528 dL_529 dL_530 dL_531 dL_532 ?_
  refine lw_arg X hh (n := 2) ⟨by decide, by decide⟩ dL_533 dL_534 dL_535 dL_536 dL_537 ?_
  refine lw_arg X hh (n := 3) ⟨by decide, by decide⟩ dL_538 dL_539 dL_540 dL_541 dL_542 ?_
  refine iv_ki (iv_rV (As := [.int (hI (lwX xs (i + 1))), .int (hI (lwX xs (i + 2))), .int (hI (lwX xs (i + 3)))]) (rest := []) E hh (ok_X5_lit l hinj S (lwX xs (i + 1)) (lwX xs (i + 2)) (lwX xs (i + 3)) (lwX_in _ _) (lwX_in _ _) (lwX_in _ _) b1) cb_X5_lit q2_229 rfl rfl ⟨Nat.le_of_ble_eq_true rfl, Nat.le_of_ble_eq_true rfl⟩ ob_X rfl rfl rfl hl.1 rfl (Nat.le_of_ble_eq_true rfl) dL_543 ⟨Nat.le_of_ble_eq_true rfl, Nat.le_of_ble_eq_true rfl⟩) hh (fun hc1 H locs hh => ?_)
  refine lv_aload_n hx hb dL_546 rfl (lv_at hl 1 rfl) ?_
  refine lw_arg X hh (n := 1) ⟨by decide, by decide⟩ dL_547 dL_548 dL_549 dL_550 dL_551 ?_
  refine lw_arg X hh (n := 2) ⟨by decide, by decide⟩ dL_552 dL_553 dL_554 dL_555 dL_556 ?_
  refine lw_arg X hh (n := 3) ⟨by decide, by decide⟩ dL_557 dL_558 dL_559 dL_560 dL_561 ?_
  refine iv_ki (iv_rV (As := [.int (hI (lwX xs (i + 1))), .int (hI (lwX xs (i + 2))), .int (hI (lwX xs (i + 3)))]) (rest := [.int (hI _)]) E hh (ok_X6_lit l hinj _ _ b3 (lwX xs (i + 1)) (lwX xs (i + 2)) (lwX xs (i + 3)) (lwX_in _ _) (lwX_in _ _) (lwX_in _ _) b4) cb_X6_lit q4_133 rfl rfl ⟨Nat.le_of_ble_eq_true rfl, Nat.le_of_ble_eq_true rfl⟩ ob_Model rfl rfl rfl hl.1 rfl (Nat.le_of_ble_eq_true rfl) dL_562 ⟨Nat.le_of_ble_eq_true rfl, Nat.le_of_ble_eq_true rfl⟩) hh (fun hc2 H locs hh => ?_)
  exact iv_icmp_eq (tgt := 856) hx hb hc1 hc2 dL_565 (by decide) (fun _ => K _ _ _ hh b5) (fun q => absurd b2 q)
set_option maxHeartbeats 4000000 in
set_option maxRecDepth 100000 in
theorem lc_inSheet (X : lwC D ad cI cJ cF p s m args meth c b L xs ls i) (hh : hH D ad cI cJ cF S s H locs) (hv : Inv S k) (hk : k ≤ 512)
    (K : ∀ (S1 : hS) (H1 : Heap) (locs1 : List Loc), hH D ad cI cJ cF S1 s H1 locs1 → Inv S1 (k + 1) → W p l e room_1 s m args below meth c H1 locs1 600000 7302250 Q (F0 m 856 ls [])) : W p l e room_1 s m args below meth c H locs 600000 7302250 Q (F0 m 570 ls []) := by
  have X0 := X
  obtain ⟨E, -, -, -, -, -, hl⟩ := X0
  obtain ⟨hx, hb, hml, hown, hts, hK, hN, hinj, hr, hlk⟩ := id E
  obtain ⟨b1, b2, b3, b4, b5⟩ := bt_inSheet hv (lwX xs (i + 1)) (lwX xs (i + 2)) (lwX xs (i + 3))
  refine lv_aload_n hx hb dL_570 rfl (lv_at hl 2 rfl) ?_
  refine lw_arg X hh (n := 1) ⟨by decide, by decide⟩ dL_571 dL_572 dL_573 dL_574 dL_575 ?_
  refine lw_arg X hh (n := 2) ⟨by decide, by decide⟩ dL_576 dL_577 dL_578 dL_579 dL_580 ?_
  refine lw_arg X hh (n := 3) ⟨by decide, by decide⟩ dL_581 dL_582 dL_583 dL_584 dL_585 ?_
  refine iv_ki (iv_rV (As := [.int (hI (lwX xs (i + 1))), .int (hI (lwX xs (i + 2))), .int (hI (lwX xs (i + 3)))]) (rest := []) E hh (ok_X5_inSheet l hinj S (lwX xs (i + 1)) (lwX xs (i + 2)) (lwX xs (i + 3)) (lwX_in _ _) (lwX_in _ _) (lwX_in _ _) b1) cb_X5_inSheet q2_236 rfl rfl ⟨Nat.le_of_ble_eq_true rfl, Nat.le_of_ble_eq_true rfl⟩ ob_X rfl rfl rfl hl.1 rfl (Nat.le_of_ble_eq_true rfl) dL_586 ⟨Nat.le_of_ble_eq_true rfl, Nat.le_of_ble_eq_true rfl⟩) hh (fun hc1 H locs hh => ?_)
  refine lv_aload_n hx hb dL_589 rfl (lv_at hl 1 rfl) ?_
  refine lw_arg X hh (n := 1) ⟨by decide, by decide⟩ dL_590 dL_591 dL_592 dL_593 dL_594 ?_
  refine lw_arg X hh (n := 2) ⟨by decide, by decide⟩ dL_595 dL_596 dL_597 dL_598 dL_599 ?_
  refine lw_arg X hh (n := 3) ⟨by decide, by decide⟩ dL_600 dL_601 dL_602 dL_603 dL_604 ?_
  refine iv_ki (iv_rV (As := [.int (hI (lwX xs (i + 1))), .int (hI (lwX xs (i + 2))), .int (hI (lwX xs (i + 3)))]) (rest := [.int (hI _)]) E hh (ok_X6_inSheet l hinj _ _ b3 (lwX xs (i + 1)) (lwX xs (i + 2)) (lwX xs (i + 3)) (lwX_in _ _) (lwX_in _ _) (lwX_in _ _) b4) cb_X6_inSheet q4_137 rfl rfl ⟨Nat.le_of_ble_eq_true rfl, Nat.le_of_ble_eq_true rfl⟩ ob_Model rfl rfl rfl hl.1 rfl (Nat.le_of_ble_eq_true rfl) dL_605 ⟨Nat.le_of_ble_eq_true rfl, Nat.le_of_ble_eq_true rfl⟩) hh (fun hc2 H locs hh => ?_)
  exact iv_icmp_eq (tgt := 856) hx hb hc1 hc2 dL_608 (by decide) (fun _ => K _ _ _ hh (inv_self b3 b5)) (fun q => absurd b2 q)
set_option maxHeartbeats 4000000 in
set_option maxRecDepth 100000 in
theorem lc_sheetOf (X : lwC D ad cI cJ cF p s m args meth c b L xs ls i) (hh : hH D ad cI cJ cF S s H locs) (hv : Inv S k) (hk : k ≤ 512)
    (K : ∀ (S1 : hS) (H1 : Heap) (locs1 : List Loc), hH D ad cI cJ cF S1 s H1 locs1 → Inv S1 (k + 1) → W p l e room_1 s m args below meth c H1 locs1 600000 7302250 Q (F0 m 856 ls [])) : W p l e room_1 s m args below meth c H locs 600000 7302250 Q (F0 m 613 ls []) := by
  have X0 := X
  obtain ⟨E, -, -, -, -, -, hl⟩ := X0
  obtain ⟨hx, hb, hml, hown, hts, hK, hN, hinj, hr, hlk⟩ := id E
  obtain ⟨b1, b2, b3, b4, b5⟩ := bt_sheetOf hv hh.2.1 (lwX xs (i + 1)) (lwX xs (i + 2))
  refine lv_aload_n hx hb dL_613 rfl (lv_at hl 2 rfl) ?_
  refine lw_arg X hh (n := 1) ⟨by decide, by decide⟩ dL_614 dL_615 dL_616 dL_617 dL_618 ?_
  refine lw_arg X hh (n := 2) ⟨by decide, by decide⟩ dL_619 dL_620 dL_621 dL_622 dL_623 ?_
  refine iv_ki (iv_rV (As := [.int (hI (lwX xs (i + 1))), .int (hI (lwX xs (i + 2)))]) (rest := []) E hh (ok_X5_sheetOf l hinj S (lwX xs (i + 1)) (lwX xs (i + 2)) (lwX_in _ _) (lwX_in _ _) b1) cb_X5_sheetOf q3_5 rfl rfl ⟨Nat.le_of_ble_eq_true rfl, Nat.le_of_ble_eq_true rfl⟩ ob_X rfl rfl rfl hl.1 rfl (Nat.le_of_ble_eq_true rfl) dL_624 ⟨Nat.le_of_ble_eq_true rfl, Nat.le_of_ble_eq_true rfl⟩) hh (fun hc1 H locs hh => ?_)
  refine lv_aload_n hx hb dL_627 rfl (lv_at hl 1 rfl) ?_
  refine lw_arg X hh (n := 1) ⟨by decide, by decide⟩ dL_628 dL_629 dL_630 dL_631 dL_632 ?_
  refine lw_arg X hh (n := 2) ⟨by decide, by decide⟩ dL_633 dL_634 dL_635 dL_636 dL_637 ?_
  refine iv_ki (iv_rV (As := [.int (hI (lwX xs (i + 1))), .int (hI (lwX xs (i + 2)))]) (rest := [.int (hI _)]) E hh (ok_X6_sheetOf l hinj _ _ b3 (lwX xs (i + 1)) (lwX xs (i + 2)) (lwX_in _ _) (lwX_in _ _) b4) cb_X6_sheetOf q4_141 rfl rfl ⟨Nat.le_of_ble_eq_true rfl, Nat.le_of_ble_eq_true rfl⟩ ob_Model rfl rfl rfl hl.1 rfl (Nat.le_of_ble_eq_true rfl) dL_638 ⟨Nat.le_of_ble_eq_true rfl, Nat.le_of_ble_eq_true rfl⟩) hh (fun hc2 H locs hh => ?_)
  exact iv_icmp_eq (tgt := 856) hx hb hc1 hc2 dL_641 (by decide) (fun _ => K _ _ _ hh b5) (fun q => absurd b2 q)
set_option maxHeartbeats 4000000 in
set_option maxRecDepth 100000 in
theorem lc_even (X : lwC D ad cI cJ cF p s m args meth c b L xs ls i) (hh : hH D ad cI cJ cF S s H locs) (hv : Inv S k) (hk : k ≤ 512)
    (K : ∀ (S1 : hS) (H1 : Heap) (locs1 : List Loc), hH D ad cI cJ cF S1 s H1 locs1 → Inv S1 (k + 1) → W p l e room_1 s m args below meth c H1 locs1 600000 7302250 Q (F0 m 856 ls [])) : W p l e room_1 s m args below meth c H locs 600000 7302250 Q (F0 m 646 ls []) := by
  have X0 := X
  obtain ⟨E, -, -, -, -, -, hl⟩ := X0
  obtain ⟨hx, hb, hml, hown, hts, hK, hN, hinj, hr, hlk⟩ := id E
  obtain ⟨b1, b2, b3, b4, b5⟩ := bt_even hv (lwX xs (i + 1))
  refine lv_aload_n hx hb dL_646 rfl (lv_at hl 2 rfl) ?_
  refine lw_arg X hh (n := 1) ⟨by decide, by decide⟩ dL_647 dL_648 dL_649 dL_650 dL_651 ?_
  refine iv_ki (iv_rV (As := [.int (hI (lwX xs (i + 1)))]) (rest := []) E hh (ok_X5_even l hinj S (lwX xs (i + 1)) (lwX_in _ _) b1) cb_X5_even q3_28 rfl rfl ⟨Nat.le_of_ble_eq_true rfl, Nat.le_of_ble_eq_true rfl⟩ ob_X rfl rfl rfl hl.1 rfl (Nat.le_of_ble_eq_true rfl) dL_652 ⟨Nat.le_of_ble_eq_true rfl, Nat.le_of_ble_eq_true rfl⟩) hh (fun hc1 H locs hh => ?_)
  refine lv_aload_n hx hb dL_655 rfl (lv_at hl 1 rfl) ?_
  refine lw_arg X hh (n := 1) ⟨by decide, by decide⟩ dL_656 dL_657 dL_658 dL_659 dL_660 ?_
  refine iv_ki (iv_rV (As := [.int (hI (lwX xs (i + 1)))]) (rest := [.int (hI _)]) E hh (ok_X6_even l hinj _ _ b3 (lwX xs (i + 1)) (lwX_in _ _) b4) cb_X6_even q4_153 rfl rfl ⟨Nat.le_of_ble_eq_true rfl, Nat.le_of_ble_eq_true rfl⟩ ob_Model rfl rfl rfl hl.1 rfl (Nat.le_of_ble_eq_true rfl) dL_661 ⟨Nat.le_of_ble_eq_true rfl, Nat.le_of_ble_eq_true rfl⟩) hh (fun hc2 H locs hh => ?_)
  exact iv_icmp_eq (tgt := 856) hx hb hc1 hc2 dL_664 (by decide) (fun _ => K _ _ _ hh (inv_self b3 b5)) (fun q => absurd b2 q)
set_option maxHeartbeats 4000000 in
set_option maxRecDepth 100000 in
theorem lc_clear (X : lwC D ad cI cJ cF p s m args meth c b L xs ls i) (hh : hH D ad cI cJ cF S s H locs) (hv : Inv S k) (hk : k ≤ 512)
    (K : ∀ (S1 : hS) (H1 : Heap) (locs1 : List Loc), hH D ad cI cJ cF S1 s H1 locs1 → Inv S1 (k + 1) → W p l e room_1 s m args below meth c H1 locs1 600000 7302250 Q (F0 m 856 ls [])) : W p l e room_1 s m args below meth c H locs 600000 7302250 Q (F0 m 669 ls []) := by
  have X0 := X
  obtain ⟨E, -, -, -, -, -, hl⟩ := X0
  obtain ⟨hx, hb, hml, hown, hts, hK, hN, hinj, hr, hlk⟩ := id E
  obtain ⟨b1, b2, b3, b4, b5⟩ := bt_clear hv (lwX xs (i + 1))
  refine lv_aload_n hx hb dL_669 rfl (lv_at hl 2 rfl) ?_
  refine lw_arg X hh (n := 1) ⟨by decide, by decide⟩ dL_670 dL_671 dL_672 dL_673 dL_674 ?_
  refine iv_ki (iv_rV (As := [.int (hI (lwX xs (i + 1)))]) (rest := []) E hh (ok_X5_clear l hinj S (lwX xs (i + 1)) (lwX_in _ _) b1) cb_X5_clear q3_41 rfl rfl ⟨Nat.le_of_ble_eq_true rfl, Nat.le_of_ble_eq_true rfl⟩ ob_X rfl rfl rfl hl.1 rfl (Nat.le_of_ble_eq_true rfl) dL_675 ⟨Nat.le_of_ble_eq_true rfl, Nat.le_of_ble_eq_true rfl⟩) hh (fun hc1 H locs hh => ?_)
  refine lv_aload_n hx hb dL_678 rfl (lv_at hl 1 rfl) ?_
  refine lw_arg X hh (n := 1) ⟨by decide, by decide⟩ dL_679 dL_680 dL_681 dL_682 dL_683 ?_
  refine iv_ki (iv_rV (As := [.int (hI (lwX xs (i + 1)))]) (rest := [.int (hI _)]) E hh (ok_X6_clear l hinj _ _ b3 (lwX xs (i + 1)) (lwX_in _ _) b4) cb_X6_clear q4_161 rfl rfl ⟨Nat.le_of_ble_eq_true rfl, Nat.le_of_ble_eq_true rfl⟩ ob_Model rfl rfl rfl hl.1 rfl (Nat.le_of_ble_eq_true rfl) dL_684 ⟨Nat.le_of_ble_eq_true rfl, Nat.le_of_ble_eq_true rfl⟩) hh (fun hc2 H locs hh => ?_)
  exact iv_icmp_eq (tgt := 856) hx hb hc1 hc2 dL_687 (by decide) (fun _ => K _ _ _ hh b5) (fun q => absurd b2 q)
set_option maxHeartbeats 4000000 in
set_option maxRecDepth 100000 in
theorem lc_best (X : lwC D ad cI cJ cF p s m args meth c b L xs ls i) (hh : hH D ad cI cJ cF S s H locs) (hv : Inv S k) (hk : k ≤ 512)
    (K : ∀ (S1 : hS) (H1 : Heap) (locs1 : List Loc), hH D ad cI cJ cF S1 s H1 locs1 → Inv S1 (k + 1) → W p l e room_1 s m args below meth c H1 locs1 600000 7302250 Q (F0 m 856 ls [])) : W p l e room_1 s m args below meth c H locs 600000 7302250 Q (F0 m 692 ls []) := by
  have X0 := X
  obtain ⟨E, -, -, -, -, -, hl⟩ := X0
  obtain ⟨hx, hb, hml, hown, hts, hK, hN, hinj, hr, hlk⟩ := id E
  obtain ⟨b1, b2, b3, b4, b5⟩ := bt_best hv (lwX xs (i + 1)) (lwX xs (i + 2)) (lwX xs (i + 3))
  refine lv_aload_n hx hb dL_692 rfl (lv_at hl 2 rfl) ?_
  refine lw_arg X hh (n := 1) ⟨by decide, by decide⟩ dL_693 dL_694 dL_695 dL_696 dL_697 ?_
  refine lw_arg X hh (n := 2) ⟨by decide, by decide⟩ dL_698 dL_699 dL_700 dL_701 dL_702 ?_
  refine lw_arg X hh (n := 3) ⟨by decide, by decide⟩ dL_703 dL_704 dL_705 dL_706 dL_707 ?_
  refine iv_ki (iv_rV (As := [.int (hI (lwX xs (i + 1))), .int (hI (lwX xs (i + 2))), .int (hI (lwX xs (i + 3)))]) (rest := []) E hh (ok_X5_best l hinj S (lwX xs (i + 1)) (lwX xs (i + 2)) (lwX xs (i + 3)) (lwX_in _ _) (lwX_in _ _) (lwX_in _ _) b1) cb_X5_best q3_45 rfl rfl ⟨Nat.le_of_ble_eq_true rfl, Nat.le_of_ble_eq_true rfl⟩ ob_X rfl rfl rfl hl.1 rfl (Nat.le_of_ble_eq_true rfl) dL_708 ⟨Nat.le_of_ble_eq_true rfl, Nat.le_of_ble_eq_true rfl⟩) hh (fun hc1 H locs hh => ?_)
  refine lv_aload_n hx hb dL_711 rfl (lv_at hl 1 rfl) ?_
  refine lw_arg X hh (n := 1) ⟨by decide, by decide⟩ dL_712 dL_713 dL_714 dL_715 dL_716 ?_
  refine lw_arg X hh (n := 2) ⟨by decide, by decide⟩ dL_717 dL_718 dL_719 dL_720 dL_721 ?_
  refine lw_arg X hh (n := 3) ⟨by decide, by decide⟩ dL_722 dL_723 dL_724 dL_725 dL_726 ?_
  refine iv_ki (iv_rV (As := [.int (hI (lwX xs (i + 1))), .int (hI (lwX xs (i + 2))), .int (hI (lwX xs (i + 3)))]) (rest := [.int (hI _)]) E hh (ok_X6_best l hinj _ _ b3 (lwX xs (i + 1)) (lwX xs (i + 2)) (lwX xs (i + 3)) (lwX_in _ _) (lwX_in _ _) (lwX_in _ _) b4) cb_X6_best q4_165 rfl rfl ⟨Nat.le_of_ble_eq_true rfl, Nat.le_of_ble_eq_true rfl⟩ ob_Model rfl rfl rfl hl.1 rfl (Nat.le_of_ble_eq_true rfl) dL_727 ⟨Nat.le_of_ble_eq_true rfl, Nat.le_of_ble_eq_true rfl⟩) hh (fun hc2 H locs hh => ?_)
  exact iv_icmp_eq (tgt := 856) hx hb hc1 hc2 dL_730 (by decide) (fun _ => K _ _ _ hh b5) (fun q => absurd b2 q)
set_option maxHeartbeats 4000000 in
set_option maxRecDepth 100000 in
theorem lc_mean (X : lwC D ad cI cJ cF p s m args meth c b L xs ls i) (hh : hH D ad cI cJ cF S s H locs) (hv : Inv S k) (hk : k ≤ 512)
    (K : ∀ (S1 : hS) (H1 : Heap) (locs1 : List Loc), hH D ad cI cJ cF S1 s H1 locs1 → Inv S1 (k + 1) → W p l e room_1 s m args below meth c H1 locs1 600000 7302250 Q (F0 m 856 ls [])) : W p l e room_1 s m args below meth c H locs 600000 7302250 Q (F0 m 735 ls []) := by
  have X0 := X
  obtain ⟨E, -, -, -, -, -, hl⟩ := X0
  obtain ⟨hx, hb, hml, hown, hts, hK, hN, hinj, hr, hlk⟩ := id E
  obtain ⟨b1, b2, b3, b4, b5⟩ := bt_mean hv
  refine lv_aload_n hx hb dL_735 rfl (lv_at hl 2 rfl) ?_
  refine iv_ki (iv_rV (As := []) (rest := []) E hh (ok_X5_mean l hinj S  b1) cb_X5_mean q3_55 rfl rfl ⟨Nat.le_of_ble_eq_true rfl, Nat.le_of_ble_eq_true rfl⟩ ob_X rfl rfl rfl hl.1 rfl (Nat.le_of_ble_eq_true rfl) dL_736 ⟨Nat.le_of_ble_eq_true rfl, Nat.le_of_ble_eq_true rfl⟩) hh (fun hc1 H locs hh => ?_)
  refine lv_aload_n hx hb dL_739 rfl (lv_at hl 1 rfl) ?_
  refine iv_ki (iv_rV (As := []) (rest := [.int (hI _)]) E hh (ok_X6_mean l hinj _ _ b3  b4) cb_X6_mean q4_173 rfl rfl ⟨Nat.le_of_ble_eq_true rfl, Nat.le_of_ble_eq_true rfl⟩ ob_Model rfl rfl rfl hl.1 rfl (Nat.le_of_ble_eq_true rfl) dL_740 ⟨Nat.le_of_ble_eq_true rfl, Nat.le_of_ble_eq_true rfl⟩) hh (fun hc2 H locs hh => ?_)
  exact iv_icmp_eq (tgt := 856) hx hb hc1 hc2 dL_743 (by decide) (fun _ => K _ _ _ hh (inv_self b3 b5)) (fun q => absurd b2 q)
set_option maxHeartbeats 4000000 in
set_option maxRecDepth 100000 in
theorem lc_count (X : lwC D ad cI cJ cF p s m args meth c b L xs ls i) (hh : hH D ad cI cJ cF S s H locs) (hv : Inv S k) (hk : k ≤ 512)
    (K : ∀ (S1 : hS) (H1 : Heap) (locs1 : List Loc), hH D ad cI cJ cF S1 s H1 locs1 → Inv S1 (k + 1) → W p l e room_1 s m args below meth c H1 locs1 600000 7302250 Q (F0 m 856 ls [])) : W p l e room_1 s m args below meth c H locs 600000 7302250 Q (F0 m 748 ls []) := by
  have X0 := X
  obtain ⟨E, -, -, -, -, -, hl⟩ := X0
  obtain ⟨hx, hb, hml, hown, hts, hK, hN, hinj, hr, hlk⟩ := id E
  obtain ⟨b1, b2, b3, b4, b5⟩ := bt_count hv hh.2.1 (lwX xs (i + 1))
  refine lv_aload_n hx hb dL_748 rfl (lv_at hl 2 rfl) ?_
  refine lw_arg X hh (n := 1) ⟨by decide, by decide⟩ dL_749 dL_750 dL_751 dL_752 dL_753 ?_
  refine iv_ki (iv_rV (As := [.int (hI (lwX xs (i + 1)))]) (rest := []) E hh (ok_X5_count l hinj S (lwX xs (i + 1)) (lwX_in _ _) b1) cb_X5_count q3_71 rfl rfl ⟨Nat.le_of_ble_eq_true rfl, Nat.le_of_ble_eq_true rfl⟩ ob_X rfl rfl rfl hl.1 rfl (Nat.le_of_ble_eq_true rfl) dL_754 ⟨Nat.le_of_ble_eq_true rfl, Nat.le_of_ble_eq_true rfl⟩) hh (fun hc1 H locs hh => ?_)
  refine lv_aload_n hx hb dL_757 rfl (lv_at hl 1 rfl) ?_
  refine lw_arg X hh (n := 1) ⟨by decide, by decide⟩ dL_758 dL_759 dL_760 dL_761 dL_762 ?_
  refine iv_ki (iv_rV (As := [.int (hI (lwX xs (i + 1)))]) (rest := [.int (hI _)]) E hh (ok_X6_count l hinj _ _ b3 (lwX xs (i + 1)) (lwX_in _ _) b4) cb_X6_count q4_191 rfl rfl ⟨Nat.le_of_ble_eq_true rfl, Nat.le_of_ble_eq_true rfl⟩ ob_Model rfl rfl rfl hl.1 rfl (Nat.le_of_ble_eq_true rfl) dL_763 ⟨Nat.le_of_ble_eq_true rfl, Nat.le_of_ble_eq_true rfl⟩) hh (fun hc2 H locs hh => ?_)
  exact iv_icmp_eq (tgt := 856) hx hb hc1 hc2 dL_766 (by decide) (fun _ => K _ _ _ hh b5) (fun q => absurd b2 q)
set_option maxHeartbeats 4000000 in
set_option maxRecDepth 100000 in
theorem lc_undo (X : lwC D ad cI cJ cF p s m args meth c b L xs ls i) (hh : hH D ad cI cJ cF S s H locs) (hv : Inv S k) (hk : k ≤ 512)
    (K : ∀ (S1 : hS) (H1 : Heap) (locs1 : List Loc), hH D ad cI cJ cF S1 s H1 locs1 → Inv S1 (k + 1) → W p l e room_1 s m args below meth c H1 locs1 600000 7302250 Q (F0 m 856 ls [])) : W p l e room_1 s m args below meth c H locs 600000 7302250 Q (F0 m 771 ls []) := by
  have X0 := X
  obtain ⟨E, -, -, -, -, -, hl⟩ := X0
  obtain ⟨hx, hb, hml, hown, hts, hK, hN, hinj, hr, hlk⟩ := id E
  obtain ⟨b1, b2, b3, b4, b5⟩ := bt_undo hv
  refine lv_aload_n hx hb dL_771 rfl (lv_at hl 2 rfl) ?_
  refine iv_ki (iv_rV (As := []) (rest := []) E hh (ok_X5_undo l hinj S  b1) cb_X5_undo q3_89 rfl rfl ⟨Nat.le_of_ble_eq_true rfl, Nat.le_of_ble_eq_true rfl⟩ ob_X rfl rfl rfl hl.1 rfl (Nat.le_of_ble_eq_true rfl) dL_772 ⟨Nat.le_of_ble_eq_true rfl, Nat.le_of_ble_eq_true rfl⟩) hh (fun hc1 H locs hh => ?_)
  refine lv_aload_n hx hb dL_775 rfl (lv_at hl 1 rfl) ?_
  refine iv_ki (iv_rV (As := []) (rest := [.int (hI _)]) E hh (ok_X6_undo l hinj _ _ b3  b4) cb_X6_undo q4_203 rfl rfl ⟨Nat.le_of_ble_eq_true rfl, Nat.le_of_ble_eq_true rfl⟩ ob_Model rfl rfl rfl hl.1 rfl (Nat.le_of_ble_eq_true rfl) dL_776 ⟨Nat.le_of_ble_eq_true rfl, Nat.le_of_ble_eq_true rfl⟩) hh (fun hc2 H locs hh => ?_)
  exact iv_icmp_eq (tgt := 856) hx hb hc1 hc2 dL_779 (by decide) (fun _ => K _ _ _ hh b5) (fun q => absurd b2 q)
set_option maxHeartbeats 4000000 in
set_option maxRecDepth 100000 in
theorem lc_type (X : lwC D ad cI cJ cF p s m args meth c b L xs ls i) (hh : hH D ad cI cJ cF S s H locs) (hv : Inv S k) (hk : k ≤ 512)
    (K : ∀ (S1 : hS) (H1 : Heap) (locs1 : List Loc), hH D ad cI cJ cF S1 s H1 locs1 → Inv S1 (k + 1) → W p l e room_1 s m args below meth c H1 locs1 600000 7302250 Q (F0 m 856 ls [])) : W p l e room_1 s m args below meth c H locs 600000 7302250 Q (F0 m 784 ls []) := by
  have X0 := X
  obtain ⟨E, -, -, -, -, -, hl⟩ := X0
  obtain ⟨hx, hb, hml, hown, hts, hK, hN, hinj, hr, hlk⟩ := id E
  obtain ⟨b1, b2, b3, b4, b5⟩ := bt_type hv (lwX xs (i + 1))
  refine lv_aload_n hx hb dL_784 rfl (lv_at hl 2 rfl) ?_
  refine lw_arg X hh (n := 1) ⟨by decide, by decide⟩ dL_785 dL_786 dL_787 dL_788 dL_789 ?_
  refine iv_ki (iv_rV (As := [.int (hI (lwX xs (i + 1)))]) (rest := []) E hh (ok_X5_type l hinj S (lwX xs (i + 1)) (lwX_in _ _) b1) cb_X5_type q3_98 rfl rfl ⟨Nat.le_of_ble_eq_true rfl, Nat.le_of_ble_eq_true rfl⟩ ob_X rfl rfl rfl hl.1 rfl (Nat.le_of_ble_eq_true rfl) dL_790 ⟨Nat.le_of_ble_eq_true rfl, Nat.le_of_ble_eq_true rfl⟩) hh (fun hc1 H locs hh => ?_)
  refine lv_aload_n hx hb dL_793 rfl (lv_at hl 1 rfl) ?_
  refine lw_arg X hh (n := 1) ⟨by decide, by decide⟩ dL_794 dL_795 dL_796 dL_797 dL_798 ?_
  refine iv_ki (iv_rV (As := [.int (hI (lwX xs (i + 1)))]) (rest := [.int (hI _)]) E hh (ok_X6_type l hinj _ _ b3 (lwX xs (i + 1)) (lwX_in _ _) b4) cb_X6_type q4_207 rfl rfl ⟨Nat.le_of_ble_eq_true rfl, Nat.le_of_ble_eq_true rfl⟩ ob_Model rfl rfl rfl hl.1 rfl (Nat.le_of_ble_eq_true rfl) dL_799 ⟨Nat.le_of_ble_eq_true rfl, Nat.le_of_ble_eq_true rfl⟩) hh (fun hc2 H locs hh => ?_)
  exact iv_icmp_eq (tgt := 856) hx hb hc1 hc2 dL_802 (by decide) (fun _ => K _ _ _ hh b5) (fun q => absurd b2 q)
set_option maxHeartbeats 4000000 in
set_option maxRecDepth 100000 in
theorem lc_clearText (X : lwC D ad cI cJ cF p s m args meth c b L xs ls i) (hh : hH D ad cI cJ cF S s H locs) (hv : Inv S k) (hk : k ≤ 512)
    (K : ∀ (S1 : hS) (H1 : Heap) (locs1 : List Loc), hH D ad cI cJ cF S1 s H1 locs1 → Inv S1 (k + 1) → W p l e room_1 s m args below meth c H1 locs1 600000 7302250 Q (F0 m 856 ls [])) : W p l e room_1 s m args below meth c H locs 600000 7302250 Q (F0 m 807 ls []) := by
  have X0 := X
  obtain ⟨E, -, -, -, -, -, hl⟩ := X0
  obtain ⟨hx, hb, hml, hown, hts, hK, hN, hinj, hr, hlk⟩ := id E
  obtain ⟨b1, b2, b3, b4, b5⟩ := bt_clearText hv
  refine lv_aload_n hx hb dL_807 rfl (lv_at hl 2 rfl) ?_
  refine iv_ki (iv_rV (As := []) (rest := []) E hh (ok_X5_clearText l hinj S ) cb_X5_clearText q3_108 rfl rfl ⟨Nat.le_of_ble_eq_true rfl, Nat.le_of_ble_eq_true rfl⟩ ob_X rfl rfl rfl hl.1 rfl (Nat.le_of_ble_eq_true rfl) dL_808 ⟨Nat.le_of_ble_eq_true rfl, Nat.le_of_ble_eq_true rfl⟩) hh (fun hc1 H locs hh => ?_)
  refine lv_aload_n hx hb dL_811 rfl (lv_at hl 1 rfl) ?_
  refine iv_ki (iv_rV (As := []) (rest := [.int (hI _)]) E hh (ok_X6_clearText l hinj _ _ b3 ) cb_X6_clearText q4_211 rfl rfl ⟨Nat.le_of_ble_eq_true rfl, Nat.le_of_ble_eq_true rfl⟩ ob_Model rfl rfl rfl hl.1 rfl (Nat.le_of_ble_eq_true rfl) dL_812 ⟨Nat.le_of_ble_eq_true rfl, Nat.le_of_ble_eq_true rfl⟩) hh (fun hc2 H locs hh => ?_)
  exact iv_icmp_eq (tgt := 856) hx hb hc1 hc2 dL_815 (by decide) (fun _ => K _ _ _ hh b5) (fun q => absurd b2 q)
set_option maxHeartbeats 4000000 in
set_option maxRecDepth 100000 in
theorem lc_fault (X : lwC D ad cI cJ cF p s m args meth c b L xs ls i) (hh : hH D ad cI cJ cF S s H locs) (hv : Inv S k) (hk : k ≤ 512)
    (K : ∀ (S1 : hS) (H1 : Heap) (locs1 : List Loc), hH D ad cI cJ cF S1 s H1 locs1 → Inv S1 (k + 1) → W p l e room_1 s m args below meth c H1 locs1 600000 7302250 Q (F0 m 856 ls [])) : W p l e room_1 s m args below meth c H locs 600000 7302250 Q (F0 m 820 ls []) := by
  have X0 := X
  obtain ⟨E, -, -, -, -, -, hl⟩ := X0
  obtain ⟨hx, hb, hml, hown, hts, hK, hN, hinj, hr, hlk⟩ := id E
  obtain ⟨b1, b2, b3, b4, b5⟩ := bt_fault hv hk (lwX xs (i + 1))
  refine lv_aload_n hx hb dL_820 rfl (lv_at hl 2 rfl) ?_
  refine lw_arg X hh (n := 1) ⟨by decide, by decide⟩ dL_821 dL_822 dL_823 dL_824 dL_825 ?_
  refine iv_ki (iv_rV (As := [.int (hI (lwX xs (i + 1)))]) (rest := []) E hh (ok_X5_fault l hinj S (lwX xs (i + 1)) (lwX_in _ _) b1) cb_X5_fault q3_112 rfl rfl ⟨Nat.le_of_ble_eq_true rfl, Nat.le_of_ble_eq_true rfl⟩ ob_X rfl rfl rfl hl.1 rfl (Nat.le_of_ble_eq_true rfl) dL_826 ⟨Nat.le_of_ble_eq_true rfl, Nat.le_of_ble_eq_true rfl⟩) hh (fun hc1 H locs hh => ?_)
  refine lv_aload_n hx hb dL_829 rfl (lv_at hl 1 rfl) ?_
  refine lw_arg X hh (n := 1) ⟨by decide, by decide⟩ dL_830 dL_831 dL_832 dL_833 dL_834 ?_
  refine iv_ki (iv_rV (As := [.int (hI (lwX xs (i + 1)))]) (rest := [.int (hI _)]) E hh (ok_X6_fault l hinj _ _ b3 (lwX xs (i + 1)) (lwX_in _ _) b4) cb_X6_fault q4_215 rfl rfl ⟨Nat.le_of_ble_eq_true rfl, Nat.le_of_ble_eq_true rfl⟩ ob_Model rfl rfl rfl hl.1 rfl (Nat.le_of_ble_eq_true rfl) dL_835 ⟨Nat.le_of_ble_eq_true rfl, Nat.le_of_ble_eq_true rfl⟩) hh (fun hc2 H locs hh => ?_)
  exact iv_icmp_eq (tgt := 856) hx hb hc1 hc2 dL_838 (by decide) (fun _ => K _ _ _ hh b5) (fun q => absurd b2 q)
set_option maxHeartbeats 4000000 in
set_option maxRecDepth 100000 in
theorem lc_play (X : lwC D ad cI cJ cF p s m args meth c b L xs ls i) (hh : hH D ad cI cJ cF S s H locs) (hv : Inv S k) (hk : k ≤ 512)
    (K : ∀ (S1 : hS) (H1 : Heap) (locs1 : List Loc), hH D ad cI cJ cF S1 s H1 locs1 → Inv S1 (k + 1) → W p l e room_1 s m args below meth c H1 locs1 600000 7302250 Q (F0 m 856 ls [])) : W p l e room_1 s m args below meth c H locs 600000 7302250 Q (F0 m 843 ls []) := by
  have X0 := X
  obtain ⟨E, -, -, -, -, -, hl⟩ := X0
  obtain ⟨hx, hb, hml, hown, hts, hK, hN, hinj, hr, hlk⟩ := id E
  obtain ⟨b1, b2, b3, b4, b5⟩ := bt_play hv hk
  refine lv_aload_n hx hb dL_843 rfl (lv_at hl 2 rfl) ?_
  refine iv_ki (iv_rV (As := []) (rest := []) E hh (ok_X5_play l hinj S  b1) cb_X5_play q3_150 rfl rfl ⟨Nat.le_of_ble_eq_true rfl, Nat.le_of_ble_eq_true rfl⟩ ob_X rfl rfl rfl hl.1 rfl (Nat.le_of_ble_eq_true rfl) dL_844 ⟨Nat.le_of_ble_eq_true rfl, Nat.le_of_ble_eq_true rfl⟩) hh (fun hc1 H locs hh => ?_)
  refine lv_aload_n hx hb dL_847 rfl (lv_at hl 1 rfl) ?_
  refine iv_ki (iv_rV (As := []) (rest := [.int (hI _)]) E hh (ok_X6_play l hinj _ _ b3  b4) cb_X6_play q5_14 rfl rfl ⟨Nat.le_of_ble_eq_true rfl, Nat.le_of_ble_eq_true rfl⟩ ob_Model rfl rfl rfl hl.1 rfl (Nat.le_of_ble_eq_true rfl) dL_848 ⟨Nat.le_of_ble_eq_true rfl, Nat.le_of_ble_eq_true rfl⟩) hh (fun hc2 H locs hh => ?_)
  exact iv_icmp_eq (tgt := 856) hx hb hc1 hc2 dL_851 (by decide) (fun _ => K _ _ _ hh b5) (fun q => absurd b2 q)
set_option maxHeartbeats 4000000 in
set_option maxRecDepth 100000 in
theorem lw_switch (X : lwC D ad cI cJ cF p s m args meth c b L xs ls i) (hh : hH D ad cI cJ cF S s H locs) (hv : Inv S k) (hk : k ≤ 512) (x : Int32)
    (K : ∀ (S1 : hS) (H1 : Heap) (locs1 : List Loc), hH D ad cI cJ cF S1 s H1 locs1 → Inv S1 (k + 1) → W p l e room_1 s m args below meth c H1 locs1 600000 7302250 Q (F0 m 856 ls [])) : W p l e room_1 s m args below meth c H locs 600000 7302250 Q (F0 m 32 ls [.int x]) := by
  obtain ⟨⟨hx, hb, -⟩, -⟩ := id X
  by_cases c0 : x.toInt < 0 ∨ 23 < x.toInt
  · exact lv_tableOut (tgt := 856) hx hb dL_32 c0 (by decide) (K S H locs hh (inv_mono hv))
  · have c1 : ¬ x.toInt < 0 := fun z => c0 (Or.inl z)
    have c2 : ¬ 23 < x.toInt := fun z => c0 (Or.inr z)
    rcases (show x.toInt = 0 ∨ x.toInt = 1 ∨ x.toInt = 2 ∨ x.toInt = 3 ∨ x.toInt = 4 ∨ x.toInt = 5 ∨ x.toInt = 6 ∨ x.toInt = 7 ∨ x.toInt = 8 ∨ x.toInt = 9 ∨ x.toInt = 10 ∨ x.toInt = 11 ∨ x.toInt = 12 ∨ x.toInt = 13 ∨ x.toInt = 14 ∨ x.toInt = 15 ∨ x.toInt = 16 ∨ x.toInt = 17 ∨ x.toInt = 18 ∨ x.toInt = 19 ∨ x.toInt = 20 ∨ x.toInt = 21 ∨ x.toInt = 22 ∨ x.toInt = 23 by omega) with hz | hz | hz | hz | hz | hz | hz | hz | hz | hz | hz | hz | hz | hz | hz | hz | hz | hz | hz | hz | hz | hz | hz | hz
    · exact lv_tableIn (off := 112) (tgt := 144) hx hb dL_32 c1 c2 (by rw [hz]; rfl) (by decide) (lc_glyph X hh hv hk K)
    · exact lv_tableIn (off := 135) (tgt := 167) hx hb dL_32 c1 c2 (by rw [hz]; rfl) (by decide) (lc_stem X hh hv hk K)
    · exact lv_tableIn (off := 178) (tgt := 210) hx hb dL_32 c1 c2 (by rw [hz]; rfl) (by decide) (lc_cut X hh hv hk K)
    · exact lv_tableIn (off := 211) (tgt := 243) hx hb dL_32 c1 c2 (by rw [hz]; rfl) (by decide) (lc_hint X hh hv hk K)
    · exact lv_tableIn (off := 254) (tgt := 286) hx hb dL_32 c1 c2 (by rw [hz]; rfl) (by decide) (lc_standard X hh hv hk K)
    · exact lv_tableIn (off := 277) (tgt := 309) hx hb dL_32 c1 c2 (by rw [hz]; rfl) (by decide) (lc_drop X hh hv hk K)
    · exact lv_tableIn (off := 300) (tgt := 332) hx hb dL_32 c1 c2 (by rw [hz]; rfl) (by decide) (lc_make X hh hv hk K)
    · exact lv_tableIn (off := 323) (tgt := 355) hx hb dL_32 c1 c2 (by rw [hz]; rfl) (by decide) (lc_set X hh hv hk K)
    · exact lv_tableIn (off := 356) (tgt := 388) hx hb dL_32 c1 c2 (by rw [hz]; rfl) (by decide) (lc_stemOf X hh hv hk K)
    · exact lv_tableIn (off := 399) (tgt := 431) hx hb dL_32 c1 c2 (by rw [hz]; rfl) (by decide) (lc_pixels X hh hv hk K)
    · exact lv_tableIn (off := 452) (tgt := 484) hx hb dL_32 c1 c2 (by rw [hz]; rfl) (by decide) (lc_glyphOf X hh hv hk K)
    · exact lv_tableIn (off := 495) (tgt := 527) hx hb dL_32 c1 c2 (by rw [hz]; rfl) (by decide) (lc_lit X hh hv hk K)
    · exact lv_tableIn (off := 538) (tgt := 570) hx hb dL_32 c1 c2 (by rw [hz]; rfl) (by decide) (lc_inSheet X hh hv hk K)
    · exact lv_tableIn (off := 581) (tgt := 613) hx hb dL_32 c1 c2 (by rw [hz]; rfl) (by decide) (lc_sheetOf X hh hv hk K)
    · exact lv_tableIn (off := 614) (tgt := 646) hx hb dL_32 c1 c2 (by rw [hz]; rfl) (by decide) (lc_even X hh hv hk K)
    · exact lv_tableIn (off := 637) (tgt := 669) hx hb dL_32 c1 c2 (by rw [hz]; rfl) (by decide) (lc_clear X hh hv hk K)
    · exact lv_tableIn (off := 660) (tgt := 692) hx hb dL_32 c1 c2 (by rw [hz]; rfl) (by decide) (lc_best X hh hv hk K)
    · exact lv_tableIn (off := 703) (tgt := 735) hx hb dL_32 c1 c2 (by rw [hz]; rfl) (by decide) (lc_mean X hh hv hk K)
    · exact lv_tableIn (off := 716) (tgt := 748) hx hb dL_32 c1 c2 (by rw [hz]; rfl) (by decide) (lc_count X hh hv hk K)
    · exact lv_tableIn (off := 739) (tgt := 771) hx hb dL_32 c1 c2 (by rw [hz]; rfl) (by decide) (lc_undo X hh hv hk K)
    · exact lv_tableIn (off := 752) (tgt := 784) hx hb dL_32 c1 c2 (by rw [hz]; rfl) (by decide) (lc_type X hh hv hk K)
    · exact lv_tableIn (off := 775) (tgt := 807) hx hb dL_32 c1 c2 (by rw [hz]; rfl) (by decide) (lc_clearText X hh hv hk K)
    · exact lv_tableIn (off := 788) (tgt := 820) hx hb dL_32 c1 c2 (by rw [hz]; rfl) (by decide) (lc_fault X hh hv hk K)
    · exact lv_tableIn (off := 811) (tgt := 843) hx hb dL_32 c1 c2 (by rw [hz]; rfl) (by decide) (lc_play X hh hv hk K)
end
