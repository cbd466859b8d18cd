/-! ===== the law's cases ===== -/
theorem gL_st1s {b sb nL : Nat} {x : UInt64} {a : Option Value} {r : List (Option Value)} {y : Nat} {ls' : Array Slot} (h : lv_has ls' nL ((1, gv b sb (.ref y)) :: (gas b sb (some (.double x) :: a :: r)).filter (fun q => !(q.1 == 1) && !(q.1 + 1 == 1 && q.2.category == 2)))) : gL b sb nL (some (.double x) :: some (.ref y) :: r) ls' := by
  refine ⟨h.1, h.2.1, fun j w hw => ?_⟩
  rcases j with _ | _ | j
  · simp at hw; subst hw; exact h.2.2 (0, gv b sb (.double x)) (List.mem_cons_of_mem _ (List.mem_filter.mpr ⟨gas_in rfl, rfl⟩))
  · simp at hw; subst hw; exact h.2.2 _ List.mem_cons_self
  · exact h.2.2 (j + 2, gv b sb w) (List.mem_cons_of_mem _ (List.mem_filter.mpr ⟨gas_in (by simpa using hw), by simp⟩))
theorem go_astore_s {sc : Option (Nat × (Nat → Int32))} {own : String} {cc : ByteArray} {nL : Nat} {ret : Option FieldType} {ini : Bool} {d pc : Nat} {x : UInt64} {a : Option Value} {r : List (Option Value)} {y : Nat} {st : List Value} {h : gH} {N bc bs : Nat} {Q : Option Value → gH → Nat → Prop} (hd : decode cc pc = .ok (.astore_n 1, 1)) (hn : 1 < nL) (kk : Go sc own cc nL ret ini d (pc + 1) (some (.double x) :: some (.ref y) :: r) st h N bc bs Q) : Go sc own cc nL ret ini d pc (some (.double x) :: a :: r) (.ref y :: st) h N bc bs Q := by
  intro l D cA b sb p e R s m args below meth c mc ms Qw X hE ls H locs cells slots hg hP hS hc hs
  exact lv_astore_n X.1 X.2.1 hd rfl hg.has hn rfl (fun ls' h' => kk l D cA b sb p e R s m args below meth c mc ms Qw X hE ls' H locs cells slots (gL_st1s h') hP hS hc hs)
set_option maxRecDepth 100000 in
theorem lc_type {sc : Option (Nat × (Nat → Int32))} {n i : Nat} {xs : Nat → Int32} {h : gH} {s : SD} {Q : Option Value → gH → Nat → Prop} (hsc : sc = some (n, xs)) (hi : i + 3 < n) (hn : n ≤ 2048) (hw : SW s) (hC : CS h s) (hM : MS h s) (kk : ∀ (h' : gH) (s' : SD), SW s' → CS h' s' → MS h' s' → Go sc RL cL_law 4 (some .boolean) false 9 657 [some (.double 0), some (.ref 0), some (.ref 147), some (.int (nI i))] [] h' 163 0 0 Q) : Go sc RL cL_law 4 (some .boolean) false 9 132 [some (.double 0), some (.ref 0), some (.ref 147), some (.int (nI i))] [] h 163 0 0 Q := by
  refine go_aload_n dL_law_132 rfl ?_
  refine go_aload_s dL_law_133 rfl ?_
  refine go_iload_n dL_law_134 rfl ?_
  refine go_iconst (v := nI 1) dL_law_135 (by decide) ?_
  refine go_iadd dL_law_136 ?_
  refine go_sld (k := i + 1) dL_law_137 hsc (nI_add i 1) (by omega) (by omega) ?_
  refine go_iv dL_law_138 mX8_type iL_13 (c_type hw hC (xs (i + 1))) rfl rfl (by omega) hC.1 rfl (Nat.le_of_ble_eq_true rfl) (Nat.zero_le _) (Nat.zero_le _) (fun v_138 h_138 n_138 q_138 => ?_)
  obtain ⟨rfl, rfl, hC1, hF1⟩ := q_138
  have hM1 := hM.fr hF1 (by omega)
  obtain ⟨⟨r0, r1, r2, r3, r4, sn, rn, h7⟩, -⟩ := id hM1
  refine go_aload_n dL_law_141 rfl ?_
  refine go_aload_s dL_law_142 rfl ?_
  refine go_iload_n dL_law_143 rfl ?_
  refine go_iconst (v := nI 1) dL_law_144 (by decide) ?_
  refine go_iadd dL_law_145 ?_
  refine go_sld (k := i + 1) dL_law_146 hsc (nI_add i 1) (by omega) (by omega) ?_
  refine go_iv dL_law_147 mX9_type iL_17 (m_type hw hM1 (xs (i + 1))) rfl rfl (by omega) h7 rfl (Nat.le_of_ble_eq_true rfl) (Nat.zero_le _) (Nat.zero_le _) (fun v_147 h_147 n_147 q_147 => ?_)
  obtain ⟨rfl, rfl, hM2, hF2⟩ := q_147
  refine go_icmp_eq (tgt := 657) dL_law_150 (by decide) (fun c_150 => ?_) (fun c_150 => ?_)
  · skip
    exact kk _ _ (sw_type hw _) (hC1.fr hF2 (by omega)) hM2
  · exact absurd rfl c_150
set_option maxRecDepth 100000 in
theorem lc_clear {sc : Option (Nat × (Nat → Int32))} {n i : Nat} {xs : Nat → Int32} {h : gH} {s : SD} {Q : Option Value → gH → Nat → Prop} (hsc : sc = some (n, xs)) (hi : i + 3 < n) (hn : n ≤ 2048) (hw : SW s) (hC : CS h s) (hM : MS h s) (kk : ∀ (h' : gH) (s' : SD), SW s' → CS h' s' → MS h' s' → Go sc RL cL_law 4 (some .boolean) false 9 657 [some (.double 0), some (.ref 0), some (.ref 147), some (.int (nI i))] [] h' 163 0 0 Q) : Go sc RL cL_law 4 (some .boolean) false 9 155 [some (.double 0), some (.ref 0), some (.ref 147), some (.int (nI i))] [] h 163 0 0 Q := by
  refine go_aload_n dL_law_155 rfl ?_
  refine go_iv dL_law_156 mX8_clear iL_18 (c_clear hC) rfl rfl (by omega) hC.1 rfl (Nat.le_of_ble_eq_true rfl) (Nat.zero_le _) (Nat.zero_le _) (fun v_156 h_156 n_156 q_156 => ?_)
  obtain ⟨rfl, rfl, hC1, hF1⟩ := q_156
  have hM1 := hM.fr hF1 (by omega)
  obtain ⟨⟨r0, r1, r2, r3, r4, sn, rn, h7⟩, -⟩ := id hM1
  refine go_aload_n dL_law_159 rfl ?_
  refine go_iv dL_law_160 mX9_clear iL_22 (m_clear hM1) rfl rfl (by omega) h7 rfl (Nat.le_of_ble_eq_true rfl) (Nat.zero_le _) (Nat.zero_le _) (fun v_160 h_160 n_160 q_160 => ?_)
  obtain ⟨rfl, rfl, hM2, hF2⟩ := q_160
  refine go_icmp_eq (tgt := 657) dL_law_163 (by decide) (fun c_163 => ?_) (fun c_163 => ?_)
  · skip
    exact kk _ _ (sw_clear hw) (hC1.fr hF2 (by omega)) hM2
  · exact absurd rfl c_163
set_option maxRecDepth 100000 in
theorem lc_map {sc : Option (Nat × (Nat → Int32))} {n i : Nat} {xs : Nat → Int32} {h : gH} {s : SD} {Q : Option Value → gH → Nat → Prop} (hsc : sc = some (n, xs)) (hi : i + 3 < n) (hn : n ≤ 2048) (hw : SW s) (hC : CS h s) (hM : MS h s) (kk : ∀ (h' : gH) (s' : SD), SW s' → CS h' s' → MS h' s' → Go sc RL cL_law 4 (some .boolean) false 9 657 [some (.double 0), some (.ref 0), some (.ref 147), some (.int (nI i))] [] h' 163 0 0 Q) : Go sc RL cL_law 4 (some .boolean) false 9 168 [some (.double 0), some (.ref 0), some (.ref 147), some (.int (nI i))] [] h 163 0 0 Q := by
  refine go_aload_n dL_law_168 rfl ?_
  refine go_iv dL_law_169 mX8_map iL_23 (c_map hw hC) rfl rfl (by omega) hC.1 rfl (Nat.le_of_ble_eq_true rfl) (Nat.zero_le _) (Nat.zero_le _) (fun v_169 h_169 n_169 q_169 => ?_)
  obtain ⟨rfl, rfl, hC1, hF1⟩ := q_169
  have hM1 := hM.fr hF1 (by omega)
  obtain ⟨⟨r0, r1, r2, r3, r4, sn, rn, h7⟩, -⟩ := id hM1
  refine go_aload_n dL_law_172 rfl ?_
  refine go_iv dL_law_173 mX9_map iL_26 (m_map hw hM1) rfl rfl (by omega) h7 rfl (Nat.le_of_ble_eq_true rfl) (Nat.zero_le _) (Nat.zero_le _) (fun v_173 h_173 n_173 q_173 => ?_)
  obtain ⟨rfl, rfl, hM2, hF2⟩ := q_173
  refine go_icmp_eq (tgt := 657) dL_law_176 (by decide) (fun c_176 => ?_) (fun c_176 => ?_)
  · skip
    exact kk _ _ (sw_map hw) (hC1.fr hF2 (by omega)) hM2
  · exact absurd rfl c_176
set_option maxRecDepth 100000 in
theorem lc_puts {sc : Option (Nat × (Nat → Int32))} {n i : Nat} {xs : Nat → Int32} {h : gH} {s : SD} {Q : Option Value → gH → Nat → Prop} (hsc : sc = some (n, xs)) (hi : i + 3 < n) (hn : n ≤ 2048) (hw : SW s) (hC : CS h s) (hM : MS h s) (kk : ∀ (h' : gH) (s' : SD), SW s' → CS h' s' → MS h' s' → Go sc RL cL_law 4 (some .boolean) false 9 657 [some (.double 0), some (.ref 0), some (.ref 147), some (.int (nI i))] [] h' 163 0 0 Q) : Go sc RL cL_law 4 (some .boolean) false 9 181 [some (.double 0), some (.ref 0), some (.ref 147), some (.int (nI i))] [] h 163 0 0 Q := by
  refine go_aload_n dL_law_181 rfl ?_
  refine go_aload_s dL_law_182 rfl ?_
  refine go_iload_n dL_law_183 rfl ?_
  refine go_iconst (v := nI 1) dL_law_184 (by decide) ?_
  refine go_iadd dL_law_185 ?_
  refine go_sld (k := i + 1) dL_law_186 hsc (nI_add i 1) (by omega) (by omega) ?_
  refine go_aload_s dL_law_187 rfl ?_
  refine go_iload_n dL_law_188 rfl ?_
  refine go_iconst (v := nI 2) dL_law_189 (by decide) ?_
  refine go_iadd dL_law_190 ?_
  refine go_sld (k := i + 2) dL_law_191 hsc (nI_add i 2) (by omega) (by omega) ?_
  refine go_aload_s dL_law_192 rfl ?_
  refine go_iload_n dL_law_193 rfl ?_
  refine go_iconst (v := nI 3) dL_law_194 (by decide) ?_
  refine go_iadd dL_law_195 ?_
  refine go_sld (k := i + 3) dL_law_196 hsc (nI_add i 3) (by omega) (by omega) ?_
  refine go_iv dL_law_197 mX8_puts iL_27 (c_puts hw hC (xs (i + 1)) (xs (i + 2)) (xs (i + 3))) rfl rfl (by omega) hC.1 rfl (Nat.le_of_ble_eq_true rfl) (Nat.zero_le _) (Nat.zero_le _) (fun v_197 h_197 n_197 q_197 => ?_)
  obtain ⟨rfl, rfl, hC1, hF1⟩ := q_197
  have hM1 := hM.fr hF1 (by omega)
  obtain ⟨⟨r0, r1, r2, r3, r4, sn, rn, h7⟩, -⟩ := id hM1
  refine go_aload_n dL_law_200 rfl ?_
  refine go_aload_s dL_law_201 rfl ?_
  refine go_iload_n dL_law_202 rfl ?_
  refine go_iconst (v := nI 1) dL_law_203 (by decide) ?_
  refine go_iadd dL_law_204 ?_
  refine go_sld (k := i + 1) dL_law_205 hsc (nI_add i 1) (by omega) (by omega) ?_
  refine go_aload_s dL_law_206 rfl ?_
  refine go_iload_n dL_law_207 rfl ?_
  refine go_iconst (v := nI 2) dL_law_208 (by decide) ?_
  refine go_iadd dL_law_209 ?_
  refine go_sld (k := i + 2) dL_law_210 hsc (nI_add i 2) (by omega) (by omega) ?_
  refine go_aload_s dL_law_211 rfl ?_
  refine go_iload_n dL_law_212 rfl ?_
  refine go_iconst (v := nI 3) dL_law_213 (by decide) ?_
  refine go_iadd dL_law_214 ?_
  refine go_sld (k := i + 3) dL_law_215 hsc (nI_add i 3) (by omega) (by omega) ?_
  refine go_iv dL_law_216 mX9_puts iL_31 (m_puts hw hM1 (xs (i + 1)) (xs (i + 2)) (xs (i + 3))) rfl rfl (by omega) h7 rfl (Nat.le_of_ble_eq_true rfl) (Nat.zero_le _) (Nat.zero_le _) (fun v_216 h_216 n_216 q_216 => ?_)
  obtain ⟨rfl, rfl, hM2, hF2⟩ := q_216
  refine go_icmp_eq (tgt := 657) dL_law_219 (by decide) (fun c_219 => ?_) (fun c_219 => ?_)
  · skip
    exact kk _ _ (sw_puts hw _ _ _) (hC1.fr hF2 (by omega)) hM2
  · exact absurd rfl c_219
set_option maxRecDepth 100000 in
theorem lc_drops {sc : Option (Nat × (Nat → Int32))} {n i : Nat} {xs : Nat → Int32} {h : gH} {s : SD} {Q : Option Value → gH → Nat → Prop} (hsc : sc = some (n, xs)) (hi : i + 3 < n) (hn : n ≤ 2048) (hw : SW s) (hC : CS h s) (hM : MS h s) (kk : ∀ (h' : gH) (s' : SD), SW s' → CS h' s' → MS h' s' → Go sc RL cL_law 4 (some .boolean) false 9 657 [some (.double 0), some (.ref 0), some (.ref 147), some (.int (nI i))] [] h' 163 0 0 Q) : Go sc RL cL_law 4 (some .boolean) false 9 224 [some (.double 0), some (.ref 0), some (.ref 147), some (.int (nI i))] [] h 163 0 0 Q := by
  refine go_aload_n dL_law_224 rfl ?_
  refine go_aload_s dL_law_225 rfl ?_
  refine go_iload_n dL_law_226 rfl ?_
  refine go_iconst (v := nI 1) dL_law_227 (by decide) ?_
  refine go_iadd dL_law_228 ?_
  refine go_sld (k := i + 1) dL_law_229 hsc (nI_add i 1) (by omega) (by omega) ?_
  refine go_aload_s dL_law_230 rfl ?_
  refine go_iload_n dL_law_231 rfl ?_
  refine go_iconst (v := nI 2) dL_law_232 (by decide) ?_
  refine go_iadd dL_law_233 ?_
  refine go_sld (k := i + 2) dL_law_234 hsc (nI_add i 2) (by omega) (by omega) ?_
  refine go_iv dL_law_235 mX8_drops iL_32 (c_drops hw hC (xs (i + 1)) (xs (i + 2))) rfl rfl (by omega) hC.1 rfl (Nat.le_of_ble_eq_true rfl) (Nat.zero_le _) (Nat.zero_le _) (fun v_235 h_235 n_235 q_235 => ?_)
  obtain ⟨rfl, rfl, hC1, hF1⟩ := q_235
  have hM1 := hM.fr hF1 (by omega)
  obtain ⟨⟨r0, r1, r2, r3, r4, sn, rn, h7⟩, -⟩ := id hM1
  refine go_aload_n dL_law_238 rfl ?_
  refine go_aload_s dL_law_239 rfl ?_
  refine go_iload_n dL_law_240 rfl ?_
  refine go_iconst (v := nI 1) dL_law_241 (by decide) ?_
  refine go_iadd dL_law_242 ?_
  refine go_sld (k := i + 1) dL_law_243 hsc (nI_add i 1) (by omega) (by omega) ?_
  refine go_aload_s dL_law_244 rfl ?_
  refine go_iload_n dL_law_245 rfl ?_
  refine go_iconst (v := nI 2) dL_law_246 (by decide) ?_
  refine go_iadd dL_law_247 ?_
  refine go_sld (k := i + 2) dL_law_248 hsc (nI_add i 2) (by omega) (by omega) ?_
  refine go_iv dL_law_249 mX9_drops iL_36 (m_drops hw hM1 (xs (i + 1)) (xs (i + 2))) rfl rfl (by omega) h7 rfl (Nat.le_of_ble_eq_true rfl) (Nat.zero_le _) (Nat.zero_le _) (fun v_249 h_249 n_249 q_249 => ?_)
  obtain ⟨rfl, rfl, hM2, hF2⟩ := q_249
  refine go_icmp_eq (tgt := 657) dL_law_252 (by decide) (fun c_252 => ?_) (fun c_252 => ?_)
  · skip
    exact kk _ _ (sw_drops hw _ _) (hC1.fr hF2 (by omega)) hM2
  · exact absurd rfl c_252
set_option maxRecDepth 100000 in
theorem lc_asks {sc : Option (Nat × (Nat → Int32))} {n i : Nat} {xs : Nat → Int32} {h : gH} {s : SD} {Q : Option Value → gH → Nat → Prop} (hsc : sc = some (n, xs)) (hi : i + 3 < n) (hn : n ≤ 2048) (hw : SW s) (hC : CS h s) (hM : MS h s) (kk : ∀ (h' : gH) (s' : SD), SW s' → CS h' s' → MS h' s' → Go sc RL cL_law 4 (some .boolean) false 9 657 [some (.double 0), some (.ref 0), some (.ref 147), some (.int (nI i))] [] h' 163 0 0 Q) : Go sc RL cL_law 4 (some .boolean) false 9 257 [some (.double 0), some (.ref 0), some (.ref 147), some (.int (nI i))] [] h 163 0 0 Q := by
  refine go_aload_n dL_law_257 rfl ?_
  refine go_aload_s dL_law_258 rfl ?_
  refine go_iload_n dL_law_259 rfl ?_
  refine go_iconst (v := nI 1) dL_law_260 (by decide) ?_
  refine go_iadd dL_law_261 ?_
  refine go_sld (k := i + 1) dL_law_262 hsc (nI_add i 1) (by omega) (by omega) ?_
  refine go_iv dL_law_263 mX8_asks iL_37 (c_asks hw hC (xs (i + 1))) rfl rfl (by omega) hC.1 rfl (Nat.le_of_ble_eq_true rfl) (Nat.zero_le _) (Nat.zero_le _) (fun v_263 h_263 n_263 q_263 => ?_)
  obtain ⟨rfl, rfl, hC1, hF1⟩ := q_263
  have hM1 := hM.fr hF1 (by omega)
  obtain ⟨⟨r0, r1, r2, r3, r4, sn, rn, h7⟩, -⟩ := id hM1
  refine go_aload_n dL_law_266 rfl ?_
  refine go_aload_s dL_law_267 rfl ?_
  refine go_iload_n dL_law_268 rfl ?_
  refine go_iconst (v := nI 1) dL_law_269 (by decide) ?_
  refine go_iadd dL_law_270 ?_
  refine go_sld (k := i + 1) dL_law_271 hsc (nI_add i 1) (by omega) (by omega) ?_
  refine go_iv dL_law_272 mX9_asks iL_40 (m_asks hw hM1 (xs (i + 1))) rfl rfl (by omega) h7 rfl (Nat.le_of_ble_eq_true rfl) (Nat.zero_le _) (Nat.zero_le _) (fun v_272 h_272 n_272 q_272 => ?_)
  obtain ⟨rfl, rfl, hM2, hF2⟩ := q_272
  refine go_icmp_eq (tgt := 657) dL_law_275 (by decide) (fun c_275 => ?_) (fun c_275 => ?_)
  · skip
    exact kk _ _ (sw_asks hw _) (hC1.fr hF2 (by omega)) hM2
  · exact absurd rfl c_275
set_option maxRecDepth 100000 in
theorem lc_costs {sc : Option (Nat × (Nat → Int32))} {n i : Nat} {xs : Nat → Int32} {h : gH} {s : SD} {Q : Option Value → gH → Nat → Prop} (hsc : sc = some (n, xs)) (hi : i + 3 < n) (hn : n ≤ 2048) (hw : SW s) (hC : CS h s) (hM : MS h s) (kk : ∀ (h' : gH) (s' : SD), SW s' → CS h' s' → MS h' s' → Go sc RL cL_law 4 (some .boolean) false 9 657 [some (.double 0), some (.ref 0), some (.ref 147), some (.int (nI i))] [] h' 163 0 0 Q) : Go sc RL cL_law 4 (some .boolean) false 9 280 [some (.double 0), some (.ref 0), some (.ref 147), some (.int (nI i))] [] h 163 0 0 Q := by
  refine go_aload_n dL_law_280 rfl ?_
  refine go_aload_s dL_law_281 rfl ?_
  refine go_iload_n dL_law_282 rfl ?_
  refine go_iconst (v := nI 1) dL_law_283 (by decide) ?_
  refine go_iadd dL_law_284 ?_
  refine go_sld (k := i + 1) dL_law_285 hsc (nI_add i 1) (by omega) (by omega) ?_
  refine go_iv dL_law_286 mX8_costs iL_41 (c_costs hw hC (xs (i + 1))) rfl rfl (by omega) hC.1 rfl (Nat.le_of_ble_eq_true rfl) (Nat.zero_le _) (Nat.zero_le _) (fun v_286 h_286 n_286 q_286 => ?_)
  obtain ⟨rfl, rfl, hC1, hF1⟩ := q_286
  have hM1 := hM.fr hF1 (by omega)
  obtain ⟨⟨r0, r1, r2, r3, r4, sn, rn, h7⟩, -⟩ := id hM1
  refine go_aload_n dL_law_289 rfl ?_
  refine go_aload_s dL_law_290 rfl ?_
  refine go_iload_n dL_law_291 rfl ?_
  refine go_iconst (v := nI 1) dL_law_292 (by decide) ?_
  refine go_iadd dL_law_293 ?_
  refine go_sld (k := i + 1) dL_law_294 hsc (nI_add i 1) (by omega) (by omega) ?_
  refine go_iv dL_law_295 mX9_costs iL_44 (m_costs hw hM1 (xs (i + 1))) rfl rfl (by omega) h7 rfl (Nat.le_of_ble_eq_true rfl) (Nat.zero_le _) (Nat.zero_le _) (fun v_295 h_295 n_295 q_295 => ?_)
  obtain ⟨rfl, rfl, hM2, hF2⟩ := q_295
  refine go_icmp_eq (tgt := 657) dL_law_298 (by decide) (fun c_298 => ?_) (fun c_298 => ?_)
  · skip
    exact kk _ _ (sw_costs hw _) (hC1.fr hF2 (by omega)) hM2
  · exact absurd rfl c_298
set_option maxRecDepth 100000 in
theorem lc_closes {sc : Option (Nat × (Nat → Int32))} {n i : Nat} {xs : Nat → Int32} {h : gH} {s : SD} {Q : Option Value → gH → Nat → Prop} (hsc : sc = some (n, xs)) (hi : i + 3 < n) (hn : n ≤ 2048) (hw : SW s) (hC : CS h s) (hM : MS h s) (kk : ∀ (h' : gH) (s' : SD), SW s' → CS h' s' → MS h' s' → Go sc RL cL_law 4 (some .boolean) false 9 657 [some (.double 0), some (.ref 0), some (.ref 147), some (.int (nI i))] [] h' 163 0 0 Q) : Go sc RL cL_law 4 (some .boolean) false 9 303 [some (.double 0), some (.ref 0), some (.ref 147), some (.int (nI i))] [] h 163 0 0 Q := by
  refine go_aload_n dL_law_303 rfl ?_
  refine go_iv dL_law_304 mX8_closes iL_45 (c_closes hw hC) rfl rfl (by omega) hC.1 rfl (Nat.le_of_ble_eq_true rfl) (Nat.zero_le _) (Nat.zero_le _) (fun v_304 h_304 n_304 q_304 => ?_)
  obtain ⟨rfl, rfl, hC1, hF1⟩ := q_304
  have hM1 := hM.fr hF1 (by omega)
  obtain ⟨⟨r0, r1, r2, r3, r4, sn, rn, h7⟩, -⟩ := id hM1
  refine go_aload_n dL_law_307 rfl ?_
  refine go_iv dL_law_308 mX9_closes iL_48 (m_closes hw hM1) rfl rfl (by omega) h7 rfl (Nat.le_of_ble_eq_true rfl) (Nat.zero_le _) (Nat.zero_le _) (fun v_308 h_308 n_308 q_308 => ?_)
  obtain ⟨rfl, rfl, hM2, hF2⟩ := q_308
  refine go_icmp_eq (tgt := 657) dL_law_311 (by decide) (fun c_311 => ?_) (fun c_311 => ?_)
  · skip
    exact kk _ _ (sw_closes hw) (hC1.fr hF2 (by omega)) hM2
  · exact absurd rfl c_311
set_option maxRecDepth 100000 in
theorem lc_undo {sc : Option (Nat × (Nat → Int32))} {n i : Nat} {xs : Nat → Int32} {h : gH} {s : SD} {Q : Option Value → gH → Nat → Prop} (hsc : sc = some (n, xs)) (hi : i + 3 < n) (hn : n ≤ 2048) (hw : SW s) (hC : CS h s) (hM : MS h s) (kk : ∀ (h' : gH) (s' : SD), SW s' → CS h' s' → MS h' s' → Go sc RL cL_law 4 (some .boolean) false 9 657 [some (.double 0), some (.ref 0), some (.ref 147), some (.int (nI i))] [] h' 163 0 0 Q) : Go sc RL cL_law 4 (some .boolean) false 9 316 [some (.double 0), some (.ref 0), some (.ref 147), some (.int (nI i))] [] h 163 0 0 Q := by
  refine go_aload_n dL_law_316 rfl ?_
  refine go_iv dL_law_317 mX8_undo iL_49 (c_undo hw hC) rfl rfl (by omega) hC.1 rfl (Nat.le_of_ble_eq_true rfl) (Nat.zero_le _) (Nat.zero_le _) (fun v_317 h_317 n_317 q_317 => ?_)
  obtain ⟨rfl, rfl, hC1, hF1⟩ := q_317
  have hM1 := hM.fr hF1 (by omega)
  obtain ⟨⟨r0, r1, r2, r3, r4, sn, rn, h7⟩, -⟩ := id hM1
  refine go_aload_n dL_law_320 rfl ?_
  refine go_iv dL_law_321 mX9_undo iL_52 (m_undo hw hM1) rfl rfl (by omega) h7 rfl (Nat.le_of_ble_eq_true rfl) (Nat.zero_le _) (Nat.zero_le _) (fun v_321 h_321 n_321 q_321 => ?_)
  obtain ⟨rfl, rfl, hM2, hF2⟩ := q_321
  refine go_icmp_eq (tgt := 657) dL_law_324 (by decide) (fun c_324 => ?_) (fun c_324 => ?_)
  · skip
    exact kk _ _ (sw_undo hw) (hC1.fr hF2 (by omega)) hM2
  · exact absurd rfl c_324
set_option maxRecDepth 100000 in
theorem lc_place {sc : Option (Nat × (Nat → Int32))} {n i : Nat} {xs : Nat → Int32} {h : gH} {s : SD} {Q : Option Value → gH → Nat → Prop} (hsc : sc = some (n, xs)) (hi : i + 3 < n) (hn : n ≤ 2048) (hw : SW s) (hC : CS h s) (hM : MS h s) (kk : ∀ (h' : gH) (s' : SD), SW s' → CS h' s' → MS h' s' → Go sc RL cL_law 4 (some .boolean) false 9 657 [some (.double 0), some (.ref 0), some (.ref 147), some (.int (nI i))] [] h' 163 0 0 Q) : Go sc RL cL_law 4 (some .boolean) false 9 329 [some (.double 0), some (.ref 0), some (.ref 147), some (.int (nI i))] [] h 163 0 0 Q := by
  refine go_aload_n dL_law_329 rfl ?_
  refine go_aload_s dL_law_330 rfl ?_
  refine go_iload_n dL_law_331 rfl ?_
  refine go_iconst (v := nI 1) dL_law_332 (by decide) ?_
  refine go_iadd dL_law_333 ?_
  refine go_sld (k := i + 1) dL_law_334 hsc (nI_add i 1) (by omega) (by omega) ?_
  refine go_aload_s dL_law_335 rfl ?_
  refine go_iload_n dL_law_336 rfl ?_
  refine go_iconst (v := nI 2) dL_law_337 (by decide) ?_
  refine go_iadd dL_law_338 ?_
  refine go_sld (k := i + 2) dL_law_339 hsc (nI_add i 2) (by omega) (by omega) ?_
  refine go_aload_s dL_law_340 rfl ?_
  refine go_iload_n dL_law_341 rfl ?_
  refine go_iconst (v := nI 3) dL_law_342 (by decide) ?_
  refine go_iadd dL_law_343 ?_
  refine go_sld (k := i + 3) dL_law_344 hsc (nI_add i 3) (by omega) (by omega) ?_
  refine go_iv dL_law_345 mX8_place iL_53 (c_place hw hC (xs (i + 1)) (xs (i + 2)) (xs (i + 3))) rfl rfl (by omega) hC.1 rfl (Nat.le_of_ble_eq_true rfl) (Nat.zero_le _) (Nat.zero_le _) (fun v_345 h_345 n_345 q_345 => ?_)
  obtain ⟨rfl, rfl, hC1, hF1⟩ := q_345
  have hM1 := hM.fr hF1 (by omega)
  obtain ⟨⟨r0, r1, r2, r3, r4, sn, rn, h7⟩, -⟩ := id hM1
  refine go_aload_n dL_law_348 rfl ?_
  refine go_aload_s dL_law_349 rfl ?_
  refine go_iload_n dL_law_350 rfl ?_
  refine go_iconst (v := nI 1) dL_law_351 (by decide) ?_
  refine go_iadd dL_law_352 ?_
  refine go_sld (k := i + 1) dL_law_353 hsc (nI_add i 1) (by omega) (by omega) ?_
  refine go_aload_s dL_law_354 rfl ?_
  refine go_iload_n dL_law_355 rfl ?_
  refine go_iconst (v := nI 2) dL_law_356 (by decide) ?_
  refine go_iadd dL_law_357 ?_
  refine go_sld (k := i + 2) dL_law_358 hsc (nI_add i 2) (by omega) (by omega) ?_
  refine go_aload_s dL_law_359 rfl ?_
  refine go_iload_n dL_law_360 rfl ?_
  refine go_iconst (v := nI 3) dL_law_361 (by decide) ?_
  refine go_iadd dL_law_362 ?_
  refine go_sld (k := i + 3) dL_law_363 hsc (nI_add i 3) (by omega) (by omega) ?_
  refine go_iv dL_law_364 mX9_place iL_56 (m_place hw hM1 (xs (i + 1)) (xs (i + 2)) (xs (i + 3))) rfl rfl (by omega) h7 rfl (Nat.le_of_ble_eq_true rfl) (Nat.zero_le _) (Nat.zero_le _) (fun v_364 h_364 n_364 q_364 => ?_)
  obtain ⟨rfl, rfl, hM2, hF2⟩ := q_364
  refine go_icmp_eq (tgt := 657) dL_law_367 (by decide) (fun c_367 => ?_) (fun c_367 => ?_)
  · skip
    exact kk _ _ hw (hC1.fr hF2 (by omega)) hM2
  · exact absurd rfl c_367
set_option maxRecDepth 100000 in
theorem lc_sorted {sc : Option (Nat × (Nat → Int32))} {n i : Nat} {xs : Nat → Int32} {h : gH} {s : SD} {Q : Option Value → gH → Nat → Prop} (hsc : sc = some (n, xs)) (hi : i + 3 < n) (hn : n ≤ 2048) (hw : SW s) (hC : CS h s) (hM : MS h s) (kk : ∀ (h' : gH) (s' : SD), SW s' → CS h' s' → MS h' s' → Go sc RL cL_law 4 (some .boolean) false 9 657 [some (.double 0), some (.ref 0), some (.ref 147), some (.int (nI i))] [] h' 163 0 0 Q) : Go sc RL cL_law 4 (some .boolean) false 9 372 [some (.double 0), some (.ref 0), some (.ref 147), some (.int (nI i))] [] h 163 0 0 Q := by
  refine go_aload_n dL_law_372 rfl ?_
  refine go_aload_s dL_law_373 rfl ?_
  refine go_iload_n dL_law_374 rfl ?_
  refine go_iconst (v := nI 1) dL_law_375 (by decide) ?_
  refine go_iadd dL_law_376 ?_
  refine go_sld (k := i + 1) dL_law_377 hsc (nI_add i 1) (by omega) (by omega) ?_
  refine go_aload_s dL_law_378 rfl ?_
  refine go_iload_n dL_law_379 rfl ?_
  refine go_iconst (v := nI 2) dL_law_380 (by decide) ?_
  refine go_iadd dL_law_381 ?_
  refine go_sld (k := i + 2) dL_law_382 hsc (nI_add i 2) (by omega) (by omega) ?_
  refine go_iv dL_law_383 mX8_sorted iL_57 (c_sorted hw hC (xs (i + 1)) (xs (i + 2))) rfl rfl (by omega) hC.1 rfl (Nat.le_of_ble_eq_true rfl) (Nat.zero_le _) (Nat.zero_le _) (fun v_383 h_383 n_383 q_383 => ?_)
  obtain ⟨rfl, rfl, hC1, hF1⟩ := q_383
  have hM1 := hM.fr hF1 (by omega)
  obtain ⟨⟨r0, r1, r2, r3, r4, sn, rn, h7⟩, -⟩ := id hM1
  refine go_aload_n dL_law_386 rfl ?_
  refine go_aload_s dL_law_387 rfl ?_
  refine go_iload_n dL_law_388 rfl ?_
  refine go_iconst (v := nI 1) dL_law_389 (by decide) ?_
  refine go_iadd dL_law_390 ?_
  refine go_sld (k := i + 1) dL_law_391 hsc (nI_add i 1) (by omega) (by omega) ?_
  refine go_aload_s dL_law_392 rfl ?_
  refine go_iload_n dL_law_393 rfl ?_
  refine go_iconst (v := nI 2) dL_law_394 (by decide) ?_
  refine go_iadd dL_law_395 ?_
  refine go_sld (k := i + 2) dL_law_396 hsc (nI_add i 2) (by omega) (by omega) ?_
  refine go_iv dL_law_397 mX9_sorted iL_60 (m_sorted hw hM1 (xs (i + 1)) (xs (i + 2))) rfl rfl (by omega) h7 rfl (Nat.le_of_ble_eq_true rfl) (Nat.zero_le _) (Nat.zero_le _) (fun v_397 h_397 n_397 q_397 => ?_)
  obtain ⟨rfl, rfl, hM2, hF2⟩ := q_397
  refine go_icmp_eq (tgt := 657) dL_law_400 (by decide) (fun c_400 => ?_) (fun c_400 => ?_)
  · skip
    exact kk _ _ hw (hC1.fr hF2 (by omega)) hM2
  · exact absurd rfl c_400
set_option maxRecDepth 100000 in
theorem lc_now {sc : Option (Nat × (Nat → Int32))} {n i : Nat} {xs : Nat → Int32} {h : gH} {s : SD} {Q : Option Value → gH → Nat → Prop} (hsc : sc = some (n, xs)) (hi : i + 3 < n) (hn : n ≤ 2048) (hw : SW s) (hC : CS h s) (hM : MS h s) (kk : ∀ (h' : gH) (s' : SD), SW s' → CS h' s' → MS h' s' → Go sc RL cL_law 4 (some .boolean) false 9 657 [some (.double 0), some (.ref 0), some (.ref 147), some (.int (nI i))] [] h' 163 0 0 Q) : Go sc RL cL_law 4 (some .boolean) false 9 405 [some (.double 0), some (.ref 0), some (.ref 147), some (.int (nI i))] [] h 163 0 0 Q := by
  refine go_aload_n dL_law_405 rfl ?_
  refine go_aload_s dL_law_406 rfl ?_
  refine go_iload_n dL_law_407 rfl ?_
  refine go_iconst (v := nI 1) dL_law_408 (by decide) ?_
  refine go_iadd dL_law_409 ?_
  refine go_sld (k := i + 1) dL_law_410 hsc (nI_add i 1) (by omega) (by omega) ?_
  refine go_iv dL_law_411 mX8_now iL_61 (c_now hw hC (xs (i + 1))) rfl rfl (by omega) hC.1 rfl (Nat.le_of_ble_eq_true rfl) (Nat.zero_le _) (Nat.zero_le _) (fun v_411 h_411 n_411 q_411 => ?_)
  obtain ⟨rfl, rfl, hC1, hF1⟩ := q_411
  have hM1 := hM.fr hF1 (by omega)
  obtain ⟨⟨r0, r1, r2, r3, r4, sn, rn, h7⟩, -⟩ := id hM1
  refine go_aload_n dL_law_414 rfl ?_
  refine go_aload_s dL_law_415 rfl ?_
  refine go_iload_n dL_law_416 rfl ?_
  refine go_iconst (v := nI 1) dL_law_417 (by decide) ?_
  refine go_iadd dL_law_418 ?_
  refine go_sld (k := i + 1) dL_law_419 hsc (nI_add i 1) (by omega) (by omega) ?_
  refine go_iv dL_law_420 mX9_now iL_64 (m_now hw hM1 (xs (i + 1))) rfl rfl (by omega) h7 rfl (Nat.le_of_ble_eq_true rfl) (Nat.zero_le _) (Nat.zero_le _) (fun v_420 h_420 n_420 q_420 => ?_)
  obtain ⟨rfl, rfl, hM2, hF2⟩ := q_420
  refine go_icmp_eq (tgt := 657) dL_law_423 (by decide) (fun c_423 => ?_) (fun c_423 => ?_)
  · skip
    exact kk _ _ hw (hC1.fr hF2 (by omega)) hM2
  · exact absurd rfl c_423
set_option maxRecDepth 100000 in
theorem lc_spread {sc : Option (Nat × (Nat → Int32))} {n i : Nat} {xs : Nat → Int32} {h : gH} {s : SD} {Q : Option Value → gH → Nat → Prop} (hsc : sc = some (n, xs)) (hi : i + 3 < n) (hn : n ≤ 2048) (hw : SW s) (hC : CS h s) (hM : MS h s) (kk : ∀ (h' : gH) (s' : SD), SW s' → CS h' s' → MS h' s' → Go sc RL cL_law 4 (some .boolean) false 9 657 [some (.double 0), some (.ref 0), some (.ref 147), some (.int (nI i))] [] h' 163 0 0 Q) : Go sc RL cL_law 4 (some .boolean) false 9 428 [some (.double 0), some (.ref 0), some (.ref 147), some (.int (nI i))] [] h 163 0 0 Q := by
  refine go_aload_n dL_law_428 rfl ?_
  refine go_aload_s dL_law_429 rfl ?_
  refine go_iload_n dL_law_430 rfl ?_
  refine go_iconst (v := nI 1) dL_law_431 (by decide) ?_
  refine go_iadd dL_law_432 ?_
  refine go_sld (k := i + 1) dL_law_433 hsc (nI_add i 1) (by omega) (by omega) ?_
  refine go_iv dL_law_434 mX8_spread iL_65 (c_spread hw hC (xs (i + 1))) rfl rfl (by omega) hC.1 rfl (Nat.le_of_ble_eq_true rfl) (Nat.zero_le _) (Nat.zero_le _) (fun v_434 h_434 n_434 q_434 => ?_)
  obtain ⟨rfl, rfl, hC1, hF1⟩ := q_434
  have hM1 := hM.fr hF1 (by omega)
  obtain ⟨⟨r0, r1, r2, r3, r4, sn, rn, h7⟩, -⟩ := id hM1
  refine go_aload_n dL_law_437 rfl ?_
  refine go_aload_s dL_law_438 rfl ?_
  refine go_iload_n dL_law_439 rfl ?_
  refine go_iconst (v := nI 1) dL_law_440 (by decide) ?_
  refine go_iadd dL_law_441 ?_
  refine go_sld (k := i + 1) dL_law_442 hsc (nI_add i 1) (by omega) (by omega) ?_
  refine go_iv dL_law_443 mX9_spread iL_69 (m_spread hw hM1 (xs (i + 1))) rfl rfl (by omega) h7 rfl (Nat.le_of_ble_eq_true rfl) (Nat.zero_le _) (Nat.zero_le _) (fun v_443 h_443 n_443 q_443 => ?_)
  obtain ⟨rfl, rfl, hM2, hF2⟩ := q_443
  refine go_lcmp dL_law_446 ?_
  refine go_if_eq (tgt := 657) dL_law_447 (by decide) (fun c_447 => ?_) (fun c_447 => ?_)
  · skip
    exact kk _ _ hw (hC1.fr hF2 (by omega)) hM2
  · exact absurd ((lg_cmp_eq _ _).mpr rfl) c_447
set_option maxRecDepth 100000 in
theorem lc_moved {sc : Option (Nat × (Nat → Int32))} {n i : Nat} {xs : Nat → Int32} {h : gH} {s : SD} {Q : Option Value → gH → Nat → Prop} (hsc : sc = some (n, xs)) (hi : i + 3 < n) (hn : n ≤ 2048) (hw : SW s) (hC : CS h s) (hM : MS h s) (kk : ∀ (h' : gH) (s' : SD), SW s' → CS h' s' → MS h' s' → Go sc RL cL_law 4 (some .boolean) false 9 657 [some (.double 0), some (.ref 0), some (.ref 147), some (.int (nI i))] [] h' 163 0 0 Q) : Go sc RL cL_law 4 (some .boolean) false 9 452 [some (.double 0), some (.ref 0), some (.ref 147), some (.int (nI i))] [] h 163 0 0 Q := by
  refine go_aload_n dL_law_452 rfl ?_
  refine go_iv dL_law_453 mX8_moved iL_70 (c_moved hw hC) rfl rfl (by omega) hC.1 rfl (Nat.le_of_ble_eq_true rfl) (Nat.zero_le _) (Nat.zero_le _) (fun v_453 h_453 n_453 q_453 => ?_)
  obtain ⟨rfl, rfl, hC1, hF1⟩ := q_453
  have hM1 := hM.fr hF1 (by omega)
  obtain ⟨⟨r0, r1, r2, r3, r4, sn, rn, h7⟩, -⟩ := id hM1
  refine go_aload_n dL_law_456 rfl ?_
  refine go_iv dL_law_457 mX9_moved iL_73 (m_moved hw hM1) rfl rfl (by omega) h7 rfl (Nat.le_of_ble_eq_true rfl) (Nat.zero_le _) (Nat.zero_le _) (fun v_457 h_457 n_457 q_457 => ?_)
  obtain ⟨rfl, rfl, hM2, hF2⟩ := q_457
  refine go_icmp_eq (tgt := 657) dL_law_460 (by decide) (fun c_460 => ?_) (fun c_460 => ?_)
  · skip
    exact kk _ _ hw (hC1.fr hF2 (by omega)) hM2
  · exact absurd rfl c_460
set_option maxRecDepth 100000 in
theorem lc_least {sc : Option (Nat × (Nat → Int32))} {n i : Nat} {xs : Nat → Int32} {h : gH} {s : SD} {Q : Option Value → gH → Nat → Prop} (hsc : sc = some (n, xs)) (hi : i + 3 < n) (hn : n ≤ 2048) (hw : SW s) (hC : CS h s) (hM : MS h s) (kk : ∀ (h' : gH) (s' : SD), SW s' → CS h' s' → MS h' s' → Go sc RL cL_law 4 (some .boolean) false 9 657 [some (.double 0), some (.ref 0), some (.ref 147), some (.int (nI i))] [] h' 163 0 0 Q) : Go sc RL cL_law 4 (some .boolean) false 9 465 [some (.double 0), some (.ref 0), some (.ref 147), some (.int (nI i))] [] h 163 0 0 Q := by
  refine go_aload_n dL_law_465 rfl ?_
  refine go_aload_s dL_law_466 rfl ?_
  refine go_iload_n dL_law_467 rfl ?_
  refine go_iconst (v := nI 1) dL_law_468 (by decide) ?_
  refine go_iadd dL_law_469 ?_
  refine go_sld (k := i + 1) dL_law_470 hsc (nI_add i 1) (by omega) (by omega) ?_
  refine go_aload_s dL_law_471 rfl ?_
  refine go_iload_n dL_law_472 rfl ?_
  refine go_iconst (v := nI 2) dL_law_473 (by decide) ?_
  refine go_iadd dL_law_474 ?_
  refine go_sld (k := i + 2) dL_law_475 hsc (nI_add i 2) (by omega) (by omega) ?_
  refine go_iv dL_law_476 mX8_least iL_74 (c_least hw hC (xs (i + 1)) (xs (i + 2))) rfl rfl (by omega) hC.1 rfl (Nat.le_of_ble_eq_true rfl) (Nat.zero_le _) (Nat.zero_le _) (fun v_476 h_476 n_476 q_476 => ?_)
  obtain ⟨rfl, rfl, hC1, hF1⟩ := q_476
  have hM1 := hM.fr hF1 (by omega)
  obtain ⟨⟨r0, r1, r2, r3, r4, sn, rn, h7⟩, -⟩ := id hM1
  refine go_aload_n dL_law_479 rfl ?_
  refine go_aload_s dL_law_480 rfl ?_
  refine go_iload_n dL_law_481 rfl ?_
  refine go_iconst (v := nI 1) dL_law_482 (by decide) ?_
  refine go_iadd dL_law_483 ?_
  refine go_sld (k := i + 1) dL_law_484 hsc (nI_add i 1) (by omega) (by omega) ?_
  refine go_aload_s dL_law_485 rfl ?_
  refine go_iload_n dL_law_486 rfl ?_
  refine go_iconst (v := nI 2) dL_law_487 (by decide) ?_
  refine go_iadd dL_law_488 ?_
  refine go_sld (k := i + 2) dL_law_489 hsc (nI_add i 2) (by omega) (by omega) ?_
  refine go_iv dL_law_490 mX9_least iL_77 (m_least hw hM1 (xs (i + 1)) (xs (i + 2))) rfl rfl (by omega) h7 rfl (Nat.le_of_ble_eq_true rfl) (Nat.zero_le _) (Nat.zero_le _) (fun v_490 h_490 n_490 q_490 => ?_)
  obtain ⟨rfl, rfl, hM2, hF2⟩ := q_490
  refine go_icmp_eq (tgt := 657) dL_law_493 (by decide) (fun c_493 => ?_) (fun c_493 => ?_)
  · skip
    exact kk _ _ hw (hC1.fr hF2 (by omega)) hM2
  · exact absurd rfl c_493
set_option maxRecDepth 100000 in
theorem lc_gain {sc : Option (Nat × (Nat → Int32))} {n i : Nat} {xs : Nat → Int32} {h : gH} {s : SD} {Q : Option Value → gH → Nat → Prop} (hsc : sc = some (n, xs)) (hi : i + 3 < n) (hn : n ≤ 2048) (hw : SW s) (hC : CS h s) (hM : MS h s) (kk : ∀ (h' : gH) (s' : SD), SW s' → CS h' s' → MS h' s' → Go sc RL cL_law 4 (some .boolean) false 9 657 [some (.double 0), some (.ref 0), some (.ref 147), some (.int (nI i))] [] h' 163 0 0 Q) : Go sc RL cL_law 4 (some .boolean) false 9 498 [some (.double 0), some (.ref 0), some (.ref 147), some (.int (nI i))] [] h 163 0 0 Q := by
  refine go_aload_n dL_law_498 rfl ?_
  refine go_aload_s dL_law_499 rfl ?_
  refine go_iload_n dL_law_500 rfl ?_
  refine go_iconst (v := nI 1) dL_law_501 (by decide) ?_
  refine go_iadd dL_law_502 ?_
  refine go_sld (k := i + 1) dL_law_503 hsc (nI_add i 1) (by omega) (by omega) ?_
  refine go_aload_s dL_law_504 rfl ?_
  refine go_iload_n dL_law_505 rfl ?_
  refine go_iconst (v := nI 2) dL_law_506 (by decide) ?_
  refine go_iadd dL_law_507 ?_
  refine go_sld (k := i + 2) dL_law_508 hsc (nI_add i 2) (by omega) (by omega) ?_
  refine go_iv dL_law_509 mX8_gain iL_78 (c_gain hw hC (xs (i + 1)) (xs (i + 2))) rfl rfl (by omega) hC.1 rfl (Nat.le_of_ble_eq_true rfl) (Nat.zero_le _) (Nat.zero_le _) (fun v_509 h_509 n_509 q_509 => ?_)
  obtain ⟨rfl, rfl, hC1, hF1⟩ := q_509
  have hM1 := hM.fr hF1 (by omega)
  obtain ⟨⟨r0, r1, r2, r3, r4, sn, rn, h7⟩, -⟩ := id hM1
  refine go_aload_n dL_law_512 rfl ?_
  refine go_aload_s dL_law_513 rfl ?_
  refine go_iload_n dL_law_514 rfl ?_
  refine go_iconst (v := nI 1) dL_law_515 (by decide) ?_
  refine go_iadd dL_law_516 ?_
  refine go_sld (k := i + 1) dL_law_517 hsc (nI_add i 1) (by omega) (by omega) ?_
  refine go_aload_s dL_law_518 rfl ?_
  refine go_iload_n dL_law_519 rfl ?_
  refine go_iconst (v := nI 2) dL_law_520 (by decide) ?_
  refine go_iadd dL_law_521 ?_
  refine go_sld (k := i + 2) dL_law_522 hsc (nI_add i 2) (by omega) (by omega) ?_
  refine go_iv dL_law_523 mX9_gain iL_82 (m_gain hw hM1 (xs (i + 1)) (xs (i + 2))) rfl rfl (by omega) h7 rfl (Nat.le_of_ble_eq_true rfl) (Nat.zero_le _) (Nat.zero_le _) (fun v_523 h_523 n_523 q_523 => ?_)
  obtain ⟨rfl, rfl, hM2, hF2⟩ := q_523
  refine go_lcmp dL_law_526 ?_
  refine go_if_eq (tgt := 657) dL_law_527 (by decide) (fun c_527 => ?_) (fun c_527 => ?_)
  · skip
    exact kk _ _ hw (hC1.fr hF2 (by omega)) hM2
  · exact absurd ((lg_cmp_eq _ _).mpr rfl) c_527
set_option maxRecDepth 100000 in
theorem lc_last {sc : Option (Nat × (Nat → Int32))} {n i : Nat} {xs : Nat → Int32} {h : gH} {s : SD} {Q : Option Value → gH → Nat → Prop} (hsc : sc = some (n, xs)) (hi : i + 3 < n) (hn : n ≤ 2048) (hw : SW s) (hC : CS h s) (hM : MS h s) (kk : ∀ (h' : gH) (s' : SD), SW s' → CS h' s' → MS h' s' → Go sc RL cL_law 4 (some .boolean) false 9 657 [some (.double 0), some (.ref 0), some (.ref 147), some (.int (nI i))] [] h' 163 0 0 Q) : Go sc RL cL_law 4 (some .boolean) false 9 532 [some (.double 0), some (.ref 0), some (.ref 147), some (.int (nI i))] [] h 163 0 0 Q := by
  refine go_aload_n dL_law_532 rfl ?_
  refine go_aload_s dL_law_533 rfl ?_
  refine go_iload_n dL_law_534 rfl ?_
  refine go_iconst (v := nI 1) dL_law_535 (by decide) ?_
  refine go_iadd dL_law_536 ?_
  refine go_sld (k := i + 1) dL_law_537 hsc (nI_add i 1) (by omega) (by omega) ?_
  refine go_aload_s dL_law_538 rfl ?_
  refine go_iload_n dL_law_539 rfl ?_
  refine go_iconst (v := nI 2) dL_law_540 (by decide) ?_
  refine go_iadd dL_law_541 ?_
  refine go_sld (k := i + 2) dL_law_542 hsc (nI_add i 2) (by omega) (by omega) ?_
  refine go_iv dL_law_543 mX8_last iL_83 (c_last hw hC (xs (i + 1)) (xs (i + 2))) rfl rfl (by omega) hC.1 rfl (Nat.le_of_ble_eq_true rfl) (Nat.zero_le _) (Nat.zero_le _) (fun v_543 h_543 n_543 q_543 => ?_)
  obtain ⟨rfl, rfl, hC1, hF1⟩ := q_543
  have hM1 := hM.fr hF1 (by omega)
  obtain ⟨⟨r0, r1, r2, r3, r4, sn, rn, h7⟩, -⟩ := id hM1
  refine go_aload_n dL_law_546 rfl ?_
  refine go_aload_s dL_law_547 rfl ?_
  refine go_iload_n dL_law_548 rfl ?_
  refine go_iconst (v := nI 1) dL_law_549 (by decide) ?_
  refine go_iadd dL_law_550 ?_
  refine go_sld (k := i + 1) dL_law_551 hsc (nI_add i 1) (by omega) (by omega) ?_
  refine go_aload_s dL_law_552 rfl ?_
  refine go_iload_n dL_law_553 rfl ?_
  refine go_iconst (v := nI 2) dL_law_554 (by decide) ?_
  refine go_iadd dL_law_555 ?_
  refine go_sld (k := i + 2) dL_law_556 hsc (nI_add i 2) (by omega) (by omega) ?_
  refine go_iv dL_law_557 mX9_last iL_86 (m_last hw hM1 (xs (i + 1)) (xs (i + 2))) rfl rfl (by omega) h7 rfl (Nat.le_of_ble_eq_true rfl) (Nat.zero_le _) (Nat.zero_le _) (fun v_557 h_557 n_557 q_557 => ?_)
  obtain ⟨rfl, rfl, hM2, hF2⟩ := q_557
  refine go_icmp_eq (tgt := 657) dL_law_560 (by decide) (fun c_560 => ?_) (fun c_560 => ?_)
  · skip
    exact kk _ _ hw (hC1.fr hF2 (by omega)) hM2
  · exact absurd rfl c_560
set_option maxRecDepth 100000 in
theorem lc_enough {sc : Option (Nat × (Nat → Int32))} {n i : Nat} {xs : Nat → Int32} {h : gH} {s : SD} {Q : Option Value → gH → Nat → Prop} (hsc : sc = some (n, xs)) (hi : i + 3 < n) (hn : n ≤ 2048) (hw : SW s) (hC : CS h s) (hM : MS h s) (kk : ∀ (h' : gH) (s' : SD), SW s' → CS h' s' → MS h' s' → Go sc RL cL_law 4 (some .boolean) false 9 657 [some (.double 0), some (.ref 0), some (.ref 147), some (.int (nI i))] [] h' 163 0 0 Q) : Go sc RL cL_law 4 (some .boolean) false 9 565 [some (.double 0), some (.ref 0), some (.ref 147), some (.int (nI i))] [] h 163 0 0 Q := by
  refine go_aload_n dL_law_565 rfl ?_
  refine go_aload_s dL_law_566 rfl ?_
  refine go_iload_n dL_law_567 rfl ?_
  refine go_iconst (v := nI 1) dL_law_568 (by decide) ?_
  refine go_iadd dL_law_569 ?_
  refine go_sld (k := i + 1) dL_law_570 hsc (nI_add i 1) (by omega) (by omega) ?_
  refine go_iv dL_law_571 mX8_enough iL_87 (c_enough hw hC (xs (i + 1))) rfl rfl (by omega) hC.1 rfl (Nat.le_of_ble_eq_true rfl) (Nat.zero_le _) (Nat.zero_le _) (fun v_571 h_571 n_571 q_571 => ?_)
  obtain ⟨rfl, rfl, hC1, hF1⟩ := q_571
  have hM1 := hM.fr hF1 (by omega)
  obtain ⟨⟨r0, r1, r2, r3, r4, sn, rn, h7⟩, -⟩ := id hM1
  refine go_aload_n dL_law_574 rfl ?_
  refine go_aload_s dL_law_575 rfl ?_
  refine go_iload_n dL_law_576 rfl ?_
  refine go_iconst (v := nI 1) dL_law_577 (by decide) ?_
  refine go_iadd dL_law_578 ?_
  refine go_sld (k := i + 1) dL_law_579 hsc (nI_add i 1) (by omega) (by omega) ?_
  refine go_iv dL_law_580 mX9_enough iL_90 (m_enough hw hM1 (xs (i + 1))) rfl rfl (by omega) h7 rfl (Nat.le_of_ble_eq_true rfl) (Nat.zero_le _) (Nat.zero_le _) (fun v_580 h_580 n_580 q_580 => ?_)
  obtain ⟨rfl, rfl, hM2, hF2⟩ := q_580
  refine go_icmp_eq (tgt := 657) dL_law_583 (by decide) (fun c_583 => ?_) (fun c_583 => ?_)
  · skip
    exact kk _ _ hw (hC1.fr hF2 (by omega)) hM2
  · exact absurd rfl c_583
set_option maxRecDepth 100000 in
theorem lc_keep {sc : Option (Nat × (Nat → Int32))} {n i : Nat} {xs : Nat → Int32} {h : gH} {s : SD} {Q : Option Value → gH → Nat → Prop} (hsc : sc = some (n, xs)) (hi : i + 3 < n) (hn : n ≤ 2048) (hw : SW s) (hC : CS h s) (hM : MS h s) (kk : ∀ (h' : gH) (s' : SD), SW s' → CS h' s' → MS h' s' → Go sc RL cL_law 4 (some .boolean) false 9 657 [some (.double 0), some (.ref 0), some (.ref 147), some (.int (nI i))] [] h' 163 0 0 Q) : Go sc RL cL_law 4 (some .boolean) false 9 588 [some (.double 0), some (.ref 0), some (.ref 147), some (.int (nI i))] [] h 163 0 0 Q := by
  refine go_aload_n dL_law_588 rfl ?_
  refine go_aload_s dL_law_589 rfl ?_
  refine go_iload_n dL_law_590 rfl ?_
  refine go_iconst (v := nI 1) dL_law_591 (by decide) ?_
  refine go_iadd dL_law_592 ?_
  refine go_sld (k := i + 1) dL_law_593 hsc (nI_add i 1) (by omega) (by omega) ?_
  refine go_iv dL_law_594 mX8_keep iL_91 (c_keep hw hC (xs (i + 1))) rfl rfl (by omega) hC.1 rfl (Nat.le_of_ble_eq_true rfl) (Nat.zero_le _) (Nat.zero_le _) (fun v_594 h_594 n_594 q_594 => ?_)
  obtain ⟨rfl, rfl, hC1, hF1⟩ := q_594
  have hM1 := hM.fr hF1 (by omega)
  obtain ⟨⟨r0, r1, r2, r3, r4, sn, rn, h7⟩, -⟩ := id hM1
  refine go_aload_n dL_law_597 rfl ?_
  refine go_aload_s dL_law_598 rfl ?_
  refine go_iload_n dL_law_599 rfl ?_
  refine go_iconst (v := nI 1) dL_law_600 (by decide) ?_
  refine go_iadd dL_law_601 ?_
  refine go_sld (k := i + 1) dL_law_602 hsc (nI_add i 1) (by omega) (by omega) ?_
  refine go_iv dL_law_603 mX9_keep iL_94 (m_keep hw hM1 (xs (i + 1))) rfl rfl (by omega) h7 rfl (Nat.le_of_ble_eq_true rfl) (Nat.zero_le _) (Nat.zero_le _) (fun v_603 h_603 n_603 q_603 => ?_)
  obtain ⟨rfl, rfl, hM2, hF2⟩ := q_603
  refine go_icmp_eq (tgt := 657) dL_law_606 (by decide) (fun c_606 => ?_) (fun c_606 => ?_)
  · skip
    exact kk _ _ (sw_keep hw _) (hC1.fr hF2 (by omega)) hM2
  · exact absurd rfl c_606
set_option maxRecDepth 100000 in
theorem lc_back {sc : Option (Nat × (Nat → Int32))} {n i : Nat} {xs : Nat → Int32} {h : gH} {s : SD} {Q : Option Value → gH → Nat → Prop} (hsc : sc = some (n, xs)) (hi : i + 3 < n) (hn : n ≤ 2048) (hw : SW s) (hC : CS h s) (hM : MS h s) (kk : ∀ (h' : gH) (s' : SD), SW s' → CS h' s' → MS h' s' → Go sc RL cL_law 4 (some .boolean) false 9 657 [some (.double 0), some (.ref 0), some (.ref 147), some (.int (nI i))] [] h' 163 0 0 Q) : Go sc RL cL_law 4 (some .boolean) false 9 611 [some (.double 0), some (.ref 0), some (.ref 147), some (.int (nI i))] [] h 163 0 0 Q := by
  refine go_aload_n dL_law_611 rfl ?_
  refine go_aload_s dL_law_612 rfl ?_
  refine go_iload_n dL_law_613 rfl ?_
  refine go_iconst (v := nI 1) dL_law_614 (by decide) ?_
  refine go_iadd dL_law_615 ?_
  refine go_sld (k := i + 1) dL_law_616 hsc (nI_add i 1) (by omega) (by omega) ?_
  refine go_iv dL_law_617 mX8_back iL_95 (c_back hw hC (xs (i + 1))) rfl rfl (by omega) hC.1 rfl (Nat.le_of_ble_eq_true rfl) (Nat.zero_le _) (Nat.zero_le _) (fun v_617 h_617 n_617 q_617 => ?_)
  obtain ⟨rfl, rfl, hC1, hF1⟩ := q_617
  have hM1 := hM.fr hF1 (by omega)
  obtain ⟨⟨r0, r1, r2, r3, r4, sn, rn, h7⟩, -⟩ := id hM1
  refine go_aload_n dL_law_620 rfl ?_
  refine go_aload_s dL_law_621 rfl ?_
  refine go_iload_n dL_law_622 rfl ?_
  refine go_iconst (v := nI 1) dL_law_623 (by decide) ?_
  refine go_iadd dL_law_624 ?_
  refine go_sld (k := i + 1) dL_law_625 hsc (nI_add i 1) (by omega) (by omega) ?_
  refine go_iv dL_law_626 mX9_back iL_98 (m_back hw hM1 (xs (i + 1))) rfl rfl (by omega) h7 rfl (Nat.le_of_ble_eq_true rfl) (Nat.zero_le _) (Nat.zero_le _) (fun v_626 h_626 n_626 q_626 => ?_)
  obtain ⟨rfl, rfl, hM2, hF2⟩ := q_626
  refine go_icmp_eq (tgt := 657) dL_law_629 (by decide) (fun c_629 => ?_) (fun c_629 => ?_)
  · skip
    exact kk _ _ (sw_back hw _) (hC1.fr hF2 (by omega)) hM2
  · exact absurd rfl c_629
set_option maxRecDepth 100000 in
theorem lc_count {sc : Option (Nat × (Nat → Int32))} {n i : Nat} {xs : Nat → Int32} {h : gH} {s : SD} {Q : Option Value → gH → Nat → Prop} (hsc : sc = some (n, xs)) (hi : i + 3 < n) (hn : n ≤ 2048) (hw : SW s) (hC : CS h s) (hM : MS h s) (kk : ∀ (h' : gH) (s' : SD), SW s' → CS h' s' → MS h' s' → Go sc RL cL_law 4 (some .boolean) false 9 657 [some (.double 0), some (.ref 0), some (.ref 147), some (.int (nI i))] [] h' 163 0 0 Q) : Go sc RL cL_law 4 (some .boolean) false 9 634 [some (.double 0), some (.ref 0), some (.ref 147), some (.int (nI i))] [] h 163 0 0 Q := by
  refine go_aload_n dL_law_634 rfl ?_
  refine go_aload_s dL_law_635 rfl ?_
  refine go_iload_n dL_law_636 rfl ?_
  refine go_iconst (v := nI 1) dL_law_637 (by decide) ?_
  refine go_iadd dL_law_638 ?_
  refine go_sld (k := i + 1) dL_law_639 hsc (nI_add i 1) (by omega) (by omega) ?_
  refine go_iv dL_law_640 mX8_count iL_99 (c_count hw hC (xs (i + 1))) rfl rfl (by omega) hC.1 rfl (Nat.le_of_ble_eq_true rfl) (Nat.zero_le _) (Nat.zero_le _) (fun v_640 h_640 n_640 q_640 => ?_)
  obtain ⟨rfl, rfl, hC1, hF1⟩ := q_640
  have hM1 := hM.fr hF1 (by omega)
  obtain ⟨⟨r0, r1, r2, r3, r4, sn, rn, h7⟩, -⟩ := id hM1
  refine go_aload_n dL_law_643 rfl ?_
  refine go_aload_s dL_law_644 rfl ?_
  refine go_iload_n dL_law_645 rfl ?_
  refine go_iconst (v := nI 1) dL_law_646 (by decide) ?_
  refine go_iadd dL_law_647 ?_
  refine go_sld (k := i + 1) dL_law_648 hsc (nI_add i 1) (by omega) (by omega) ?_
  refine go_iv dL_law_649 mX9_count iL_102 (m_count hw hM1 (xs (i + 1))) rfl rfl (by omega) h7 rfl (Nat.le_of_ble_eq_true rfl) (Nat.zero_le _) (Nat.zero_le _) (fun v_649 h_649 n_649 q_649 => ?_)
  obtain ⟨rfl, rfl, hM2, hF2⟩ := q_649
  refine go_icmp_eq (tgt := 657) dL_law_652 (by decide) (fun c_652 => ?_) (fun c_652 => ?_)
  · skip
    exact kk _ _ hw (hC1.fr hF2 (by omega)) hM2
  · exact absurd rfl c_652
theorem and31 (x : Int32) : ∃ k, k < 32 ∧ x &&& nI 31 = nI k := by
  refine ⟨(x &&& nI 31).toBitVec.toNat, ?_, ?_⟩
  · have e : (x &&& nI 31).toBitVec.toNat = x.toBitVec.toNat &&& 31 := by
      rw [Int32.toBitVec_and, BitVec.toNat_and]
      rfl
    rw [e]
    have := Nat.and_le_right (n := x.toBitVec.toNat) (m := 31)
    omega
  · apply Int32.toBitVec_inj.mp
    show _ = (Int32.ofNat _).toBitVec
    rw [Int32.toBitVec_ofNat']
    simp
theorem law_lt {n i : Nat} (hn : n ≤ 2048) (hi : i ≤ 4096) (h : ¬ nI n - nI 4 < nI i) : i + 4 ≤ n := by
  by_cases h4 : 4 ≤ n
  · rw [nI_sub h4, nI_ltI (by omega) (by omega)] at h
    omega
  · refine absurd ?_ h
    have e : (nI n - nI 4).toInt < 0 := by rcases (show n = 0 ∨ n = 1 ∨ n = 2 ∨ n = 3 by omega) with rfl | rfl | rfl | rfl <;> decide
    rw [Int32.lt_iff_toInt_lt, nI_toInt (n := i) (by omega)]
    omega
set_option maxRecDepth 100000 in
theorem law_loop {sc : Option (Nat × (Nat → Int32))} {n : Nat} {xs : Nat → Int32} (hsc : sc = some (n, xs)) (hn : n ≤ 2048) : ∀ (m i : Nat) (h : gH) (s : SD), n ≤ i + m → i ≤ n + 3 → SW s → CS h s → MS h s → Go sc RL cL_law 4 (some .boolean) false 9 18 [some (.double 0), some (.ref 0), some (.ref 147), some (.int (nI i))] [] h 163 0 0 (fun v _ _ => v = some (.int 1)) := by
  intro m
  induction m with
  | zero =>
    intro i h s hm hi hw hC hM
    refine go_iload_n dL_law_18 rfl ?_
    refine go_aload_s dL_law_19 rfl ?_
    refine go_slen dL_law_20 hsc ?_
    refine go_iconst (v := nI 4) dL_law_21 (by decide) ?_
    refine go_isub dL_law_22 ?_
    refine go_icmp_gt (tgt := 663) dL_law_23 (by decide) (fun c_23 => ?_) (fun c_23 => ?_)
    · skip
      refine go_iconst (v := nI 1) dL_law_663 (by decide) ?_
      refine go_zret dL_law_664 rfl (by first | exact Or.inl rfl | exact Or.inr rfl | exact bI01 _) ?_
      rfl
    · exact absurd (law_lt hn (by omega) c_23) (by omega)
  | succ m ih =>
    intro i h s hm hi hw hC hM
    have KK : i + 4 ≤ n → ∀ (h' : gH) (s' : SD), SW s' → CS h' s' → MS h' s' → Go sc RL cL_law 4 (some .boolean) false 9 657 [some (.double 0), some (.ref 0), some (.ref 147), some (.int (nI i))] [] h' 163 0 0 (fun v _ _ => v = some (.int 1)) := by
      intro h4 h' s' hw' hC' hM'
      refine go_iinc (L' := [_, _, _, _]) dL_law_657 rfl (nI_add i 4) (by decide) rfl ?_
      refine go_goto (tgt := 18) dL_law_660 (by decide) ?_
      exact ih (i + 4) h' s' (by omega) (by omega) hw' hC' hM'
    refine go_iload_n dL_law_18 rfl ?_
    refine go_aload_s dL_law_19 rfl ?_
    refine go_slen dL_law_20 hsc ?_
    refine go_iconst (v := nI 4) dL_law_21 (by decide) ?_
    refine go_isub dL_law_22 ?_
    refine go_icmp_gt (tgt := 663) dL_law_23 (by decide) (fun c_23 => ?_) (fun c_23 => ?_)
    · skip
      refine go_iconst (v := nI 1) dL_law_663 (by decide) ?_
      refine go_zret dL_law_664 rfl (by first | exact Or.inl rfl | exact Or.inr rfl | exact bI01 _) ?_
      rfl
    · skip
      have h4 := law_lt hn (by omega) c_23
      refine go_aload_s dL_law_26 rfl ?_
      refine go_iload_n dL_law_27 rfl ?_
      refine go_sld (k := i) dL_law_28 hsc rfl (by omega) (by omega) ?_
      refine go_bipush (v := nI 31) dL_law_29 (by decide) ?_
      refine go_iand dL_law_31 ?_
      obtain ⟨k, hk, e⟩ := and31 (xs i)
      rw [e]
      rcases (show k = 0 ∨ k = 1 ∨ k = 2 ∨ k = 3 ∨ k = 4 ∨ k = 5 ∨ k = 6 ∨ k = 7 ∨ k = 8 ∨ k = 9 ∨ k = 10 ∨ k = 11 ∨ k = 12 ∨ k = 13 ∨ k = 14 ∨ k = 15 ∨ k = 16 ∨ k = 17 ∨ k = 18 ∨ k = 19 ∨ k = 20 ∨ 21 ≤ k by omega) with rfl | rfl | rfl | rfl | rfl | rfl | rfl | rfl | rfl | rfl | rfl | rfl | rfl | rfl | rfl | rfl | rfl | rfl | rfl | rfl | rfl | hk2
      · exact go_tableIn (tgt := 132) dL_law_32 (by decide) (by decide) rfl (by decide) (lc_type hsc (by omega) hn hw hC hM (KK h4))
      · exact go_tableIn (tgt := 155) dL_law_32 (by decide) (by decide) rfl (by decide) (lc_clear hsc (by omega) hn hw hC hM (KK h4))
      · exact go_tableIn (tgt := 168) dL_law_32 (by decide) (by decide) rfl (by decide) (lc_map hsc (by omega) hn hw hC hM (KK h4))
      · exact go_tableIn (tgt := 181) dL_law_32 (by decide) (by decide) rfl (by decide) (lc_puts hsc (by omega) hn hw hC hM (KK h4))
      · exact go_tableIn (tgt := 224) dL_law_32 (by decide) (by decide) rfl (by decide) (lc_drops hsc (by omega) hn hw hC hM (KK h4))
      · exact go_tableIn (tgt := 257) dL_law_32 (by decide) (by decide) rfl (by decide) (lc_asks hsc (by omega) hn hw hC hM (KK h4))
      · exact go_tableIn (tgt := 280) dL_law_32 (by decide) (by decide) rfl (by decide) (lc_costs hsc (by omega) hn hw hC hM (KK h4))
      · exact go_tableIn (tgt := 303) dL_law_32 (by decide) (by decide) rfl (by decide) (lc_closes hsc (by omega) hn hw hC hM (KK h4))
      · exact go_tableIn (tgt := 316) dL_law_32 (by decide) (by decide) rfl (by decide) (lc_undo hsc (by omega) hn hw hC hM (KK h4))
      · exact go_tableIn (tgt := 329) dL_law_32 (by decide) (by decide) rfl (by decide) (lc_place hsc (by omega) hn hw hC hM (KK h4))
      · exact go_tableIn (tgt := 372) dL_law_32 (by decide) (by decide) rfl (by decide) (lc_sorted hsc (by omega) hn hw hC hM (KK h4))
      · exact go_tableIn (tgt := 405) dL_law_32 (by decide) (by decide) rfl (by decide) (lc_now hsc (by omega) hn hw hC hM (KK h4))
      · exact go_tableIn (tgt := 428) dL_law_32 (by decide) (by decide) rfl (by decide) (lc_spread hsc (by omega) hn hw hC hM (KK h4))
      · exact go_tableIn (tgt := 452) dL_law_32 (by decide) (by decide) rfl (by decide) (lc_moved hsc (by omega) hn hw hC hM (KK h4))
      · exact go_tableIn (tgt := 465) dL_law_32 (by decide) (by decide) rfl (by decide) (lc_least hsc (by omega) hn hw hC hM (KK h4))
      · exact go_tableIn (tgt := 498) dL_law_32 (by decide) (by decide) rfl (by decide) (lc_gain hsc (by omega) hn hw hC hM (KK h4))
      · exact go_tableIn (tgt := 532) dL_law_32 (by decide) (by decide) rfl (by decide) (lc_last hsc (by omega) hn hw hC hM (KK h4))
      · exact go_tableIn (tgt := 565) dL_law_32 (by decide) (by decide) rfl (by decide) (lc_enough hsc (by omega) hn hw hC hM (KK h4))
      · exact go_tableIn (tgt := 588) dL_law_32 (by decide) (by decide) rfl (by decide) (lc_keep hsc (by omega) hn hw hC hM (KK h4))
      · exact go_tableIn (tgt := 611) dL_law_32 (by decide) (by decide) rfl (by decide) (lc_back hsc (by omega) hn hw hC hM (KK h4))
      · exact go_tableIn (tgt := 634) dL_law_32 (by decide) (by decide) rfl (by decide) (lc_count hsc (by omega) hn hw hC hM (KK h4))
      · exact go_tableOut (tgt := 657) dL_law_32 (by rw [nI_toInt (by omega)]; omega) (by decide) (KK h4 h s hw hC hM)
set_option maxRecDepth 100000 in
theorem law_go (n : Nat) (xs : Nat → Int32) (h : gH) (hn : n ≤ 2048) : Go (some (n, xs)) RL cL_law 4 (some .boolean) false 9 0 [some (.double 0), none, none, none] [] h 0 600000 7302250 (fun v _ _ => v = some (.int 1)) := by
  refine go_new (ci := 8) (fs := [.null, .null, .null, .null, .null, .null]) dL_law_0 nL_7 rfl bX8 in_X8 (fun j hj => by rcases (show j = 0 ∨ j = 1 ∨ j = 2 ∨ j = 3 ∨ j = 4 ∨ j = 5 by omega) with rfl | rfl | rfl | rfl | rfl | rfl <;> rfl) (fun _ _ => rfl) (by omega) (by omega) ?_
  refine go_dup dL_law_3 rfl ?_
  refine go_ii dL_law_4 mX8_init iL_9 (run_class 4 hset_same) rfl rfl (Nat.le_of_ble_eq_true rfl) (by omega) (by omega) (fun v_4 h_4 n_4 q_4 => ?_)
  obtain ⟨rfl, rfl, hC⟩ := q_4
  refine go_astore_s dL_law_7 (by decide) ?_
  refine go_new (ci := 9) (fs := [.int 0, .int 0, .int 0, .int 0, .null, .null, .null, .null, .int 0, .int 0, .int 0, .int 0, .int 0, .int 0, .null, .null, .null, .int 0, .null, .int 0, .null, .null, .null, .null, .int 0, .null, .null, .null]) dL_law_8 nL_10 rfl bX9 in_X9 (fun j hj => by rcases (show j = 0 ∨ j = 1 ∨ j = 2 ∨ j = 3 ∨ j = 4 ∨ j = 5 ∨ j = 6 ∨ j = 7 ∨ j = 8 ∨ j = 9 ∨ j = 10 ∨ j = 11 ∨ j = 12 ∨ j = 13 ∨ j = 14 ∨ j = 15 ∨ j = 16 ∨ j = 17 ∨ j = 18 ∨ j = 19 ∨ j = 20 ∨ j = 21 ∨ j = 22 ∨ j = 23 ∨ j = 24 ∨ j = 25 ∨ j = 26 ∨ j = 27 by omega) with rfl | rfl | rfl | rfl | rfl | rfl | rfl | rfl | rfl | rfl | rfl | rfl | rfl | rfl | rfl | rfl | rfl | rfl | rfl | rfl | rfl | rfl | rfl | rfl | rfl | rfl | rfl | rfl <;> rfl) (fun _ _ => rfl) (by omega) (by omega) ?_
  refine go_dup dL_law_11 rfl ?_
  refine go_ii dL_law_12 mX9_init iL_12 (run_model 7 hset_same) rfl rfl (Nat.le_of_ble_eq_true rfl) (by omega) (by omega) (fun v_12 h_12 n_12 q_12 => ?_)
  obtain ⟨rfl, rfl, hM, hF2⟩ := q_12
  refine go_astore_n (L' := [_, _, _, _]) dL_law_15 rfl (by decide) rfl ?_
  refine go_iconst (v := nI 0) dL_law_16 (by decide) ?_
  refine go_istore_n (L' := [_, _, _, _]) dL_law_17 rfl (by decide) rfl ?_
  have hC2 := (hC.fr (lo := 147) (hi := 163) (h' := hset h_4 147 (.inr (9, [.int 0, .int 0, .int 0, .int 0, .null, .null, .null, .null, .int 0, .int 0, .int 0, .int 0, .int 0, .int 0, .null, .null, .null, .int 0, .null, .int 0, .null, .null, .null, .null, .int 0, .null, .null, .null]))) (Fr.rf.set (by omega) (by omega)) (by omega)).fr hF2 (by omega)
  exact go_room (Nat.zero_le _) (Nat.zero_le _) (law_loop rfl hn n 0 _ s0 (by omega) (by omega) sw_0 hC2 hM)
