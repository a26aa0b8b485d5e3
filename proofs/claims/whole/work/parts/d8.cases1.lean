/-! ## The law: its cases -/
abbrev XL (p : Program) (l : Launch) (e : Env) (s : State) (m : MethodId) (b : Nat) (below : List Frame) (meth : Method) (c : Code) (D : va_G) (dA : Nat → ClassId) (pc : Nat) (lv : List (Nat × Value)) (st : List Value) (h : xH) (sz : Nat) : Prop := xV p l e room_1 s m #[Value.ref b] below meth c D dA 4 (fun _ => none) s.heap.size 600000 7302250 (fun r _ _ => r = some (.int 1)) 293 4069 pc lv st h sz
theorem nI_ad (a b : Nat) : nI a + nI b = nI (a + b) := by
  rw [nI_iZ, nI_iZ, nI_iZ, iZ_add, Int.natCast_add]
theorem cmp_self {a : Int64} : lg_cmp a a = 0 := by
  unfold lg_cmp
  simp
section
variable {p : Program} {l : Launch} {e : Env} {s : State} {m : MethodId} {below : List Frame} {meth : Method} {c : Code} {D : va_G} {dA : Nat → ClassId} {b L j B : Nat} {xs : Nat → Int32} {h : xH} {sz : Nat}
set_option maxRecDepth 100000 in
set_option maxHeartbeats 4000000 in
theorem lc_feed (G : xG p s m #[Value.ref b] meth c cL_law 4 wsL_law RL (some .boolean) D dA s.heap.size) (hX : va_X b L xs s s.heap) (hbl : b < s.heap.size) (hL : L ≤ 2048) (hj : 4 * j + 4 ≤ L) (R : ReH dA h B) (K : ∀ (h1 : xH) (sz1 : Nat), ReH dA h1 B → XL p l e s m b below meth c D dA 602 [(0, .ref b), (1, .ref B), (2, .ref (B + 279)), (3, .int (nI (4 * j)))] [] h1 sz1) : XL p l e s m b below meth c D dA 128 [(0, .ref b), (1, .ref B), (2, .ref (B + 279)), (3, .int (nI (4 * j)))] [] h sz := by
  obtain ⟨fs4, hb4⟩ := ReH_o R
  obtain ⟨a, Mid, hM4, hM5⟩ := j_feed (l := l) (D := D) (sz := sz) (v := xs (4 * j + 1)) R
  refine x_aload_n G dL_law_128 rfl ?_
  refine x_aload_n G dL_law_129 rfl ?_
  refine x_iload_n G dL_law_130 rfl ?_
  refine x_iconstV (v := nI 1) G dL_law_131 (by decide) ?_
  refine x_iadd G dL_law_132 ?_
  refine x_topE (y := nI (4 * j + 1)) (nI_ad _ _) ?_
  refine x_sld (k := 4 * j + 1) G hX hbl rfl (by omega) hL dL_law_133 ?_
  refine x_callV (n := 1) (rest := []) (As := [.int (xs (4 * j + 1))]) G (ci := 4) hM4 gL_law_X4_feed rfl ⟨rfl, by decide +kernel, by decide +kernel, by decide +kernel⟩ ⟨by decide, by decide⟩ rfl rfl hb4 dL_law_134 rfl rfl (Nat.le_of_ble_eq_true rfl) ⟨Nat.le_of_ble_eq_true rfl, Nat.le_of_ble_eq_true rfl⟩ ?_
  rintro _ h2 sz2 ⟨rfl, hm⟩
  try dsimp only [Option.toList, List.cons_append, List.nil_append]
  obtain ⟨⟨fs5, hb5⟩, hM5⟩ := hM5 h2 sz2 hm
  refine x_aload_n G dL_law_137 rfl ?_
  refine x_aload_n G dL_law_138 rfl ?_
  refine x_iload_n G dL_law_139 rfl ?_
  refine x_iconstV (v := nI 1) G dL_law_140 (by decide) ?_
  refine x_iadd G dL_law_141 ?_
  refine x_topE (y := nI (4 * j + 1)) (nI_ad _ _) ?_
  refine x_sld (k := 4 * j + 1) G hX hbl rfl (by omega) hL dL_law_142 ?_
  refine x_callV (n := 1) (rest := [.int a]) (As := [.int (xs (4 * j + 1))]) G (ci := 5) hM5 gL_law_X5_feed rfl ⟨rfl, by decide +kernel, by decide +kernel, by decide +kernel⟩ ⟨by decide, by decide⟩ rfl rfl hb5 dL_law_143 rfl rfl (Nat.le_of_ble_eq_true rfl) ⟨Nat.le_of_ble_eq_true rfl, Nat.le_of_ble_eq_true rfl⟩ ?_
  rintro _ h3 sz3 ⟨rfl, R3⟩
  try dsimp only [Option.toList, List.cons_append, List.nil_append]
  exact x_icmp_eq G 602 dL_law_146 (by decide) (fun _ => K h3 sz3 R3) (fun q => absurd rfl q)
set_option maxRecDepth 100000 in
set_option maxHeartbeats 4000000 in
theorem lc_wipe (G : xG p s m #[Value.ref b] meth c cL_law 4 wsL_law RL (some .boolean) D dA s.heap.size) (hX : va_X b L xs s s.heap) (hbl : b < s.heap.size) (hL : L ≤ 2048) (hj : 4 * j + 4 ≤ L) (R : ReH dA h B) (K : ∀ (h1 : xH) (sz1 : Nat), ReH dA h1 B → XL p l e s m b below meth c D dA 602 [(0, .ref b), (1, .ref B), (2, .ref (B + 279)), (3, .int (nI (4 * j)))] [] h1 sz1) : XL p l e s m b below meth c D dA 151 [(0, .ref b), (1, .ref B), (2, .ref (B + 279)), (3, .int (nI (4 * j)))] [] h sz := by
  obtain ⟨fs4, hb4⟩ := ReH_o R
  obtain ⟨a, Mid, hM4, hM5⟩ := j_wipe (l := l) (D := D) (sz := sz) R
  refine x_aload_n G dL_law_151 rfl ?_
  refine x_callV (n := 0) (rest := []) (As := []) G (ci := 4) hM4 gL_law_X4_wipe rfl ⟨rfl, by decide +kernel, by decide +kernel, by decide +kernel⟩ ⟨by decide, by decide⟩ rfl rfl hb4 dL_law_152 rfl rfl (Nat.le_of_ble_eq_true rfl) ⟨Nat.le_of_ble_eq_true rfl, Nat.le_of_ble_eq_true rfl⟩ ?_
  rintro _ h2 sz2 ⟨rfl, hm⟩
  try dsimp only [Option.toList, List.cons_append, List.nil_append]
  obtain ⟨⟨fs5, hb5⟩, hM5⟩ := hM5 h2 sz2 hm
  refine x_aload_n G dL_law_155 rfl ?_
  refine x_callV (n := 0) (rest := [.int a]) (As := []) G (ci := 5) hM5 gL_law_X5_wipe rfl ⟨rfl, by decide +kernel, by decide +kernel, by decide +kernel⟩ ⟨by decide, by decide⟩ rfl rfl hb5 dL_law_156 rfl rfl (Nat.le_of_ble_eq_true rfl) ⟨Nat.le_of_ble_eq_true rfl, Nat.le_of_ble_eq_true rfl⟩ ?_
  rintro _ h3 sz3 ⟨rfl, R3⟩
  try dsimp only [Option.toList, List.cons_append, List.nil_append]
  exact x_icmp_eq G 602 dL_law_159 (by decide) (fun _ => K h3 sz3 R3) (fun q => absurd rfl q)
set_option maxRecDepth 100000 in
set_option maxHeartbeats 4000000 in
theorem lc_fault (G : xG p s m #[Value.ref b] meth c cL_law 4 wsL_law RL (some .boolean) D dA s.heap.size) (hX : va_X b L xs s s.heap) (hbl : b < s.heap.size) (hL : L ≤ 2048) (hj : 4 * j + 4 ≤ L) (R : ReH dA h B) (K : ∀ (h1 : xH) (sz1 : Nat), ReH dA h1 B → XL p l e s m b below meth c D dA 602 [(0, .ref b), (1, .ref B), (2, .ref (B + 279)), (3, .int (nI (4 * j)))] [] h1 sz1) : XL p l e s m b below meth c D dA 164 [(0, .ref b), (1, .ref B), (2, .ref (B + 279)), (3, .int (nI (4 * j)))] [] h sz := by
  obtain ⟨fs4, hb4⟩ := ReH_o R
  obtain ⟨a, Mid, hM4, hM5⟩ := j_fault (l := l) (D := D) (sz := sz) R
  refine x_aload_n G dL_law_164 rfl ?_
  refine x_callV (n := 0) (rest := []) (As := []) G (ci := 4) hM4 gL_law_X4_fault rfl ⟨rfl, by decide +kernel, by decide +kernel, by decide +kernel⟩ ⟨by decide, by decide⟩ rfl rfl hb4 dL_law_165 rfl rfl (Nat.le_of_ble_eq_true rfl) ⟨Nat.le_of_ble_eq_true rfl, Nat.le_of_ble_eq_true rfl⟩ ?_
  rintro _ h2 sz2 ⟨rfl, hm⟩
  try dsimp only [Option.toList, List.cons_append, List.nil_append]
  obtain ⟨⟨fs5, hb5⟩, hM5⟩ := hM5 h2 sz2 hm
  refine x_aload_n G dL_law_168 rfl ?_
  refine x_callV (n := 0) (rest := [.int a]) (As := []) G (ci := 5) hM5 gL_law_X5_fault rfl ⟨rfl, by decide +kernel, by decide +kernel, by decide +kernel⟩ ⟨by decide, by decide⟩ rfl rfl hb5 dL_law_169 rfl rfl (Nat.le_of_ble_eq_true rfl) ⟨Nat.le_of_ble_eq_true rfl, Nat.le_of_ble_eq_true rfl⟩ ?_
  rintro _ h3 sz3 ⟨rfl, R3⟩
  try dsimp only [Option.toList, List.cons_append, List.nil_append]
  exact x_icmp_eq G 602 dL_law_172 (by decide) (fun _ => K h3 sz3 R3) (fun q => absurd rfl q)
set_option maxRecDepth 100000 in
set_option maxHeartbeats 4000000 in
theorem lc_told (G : xG p s m #[Value.ref b] meth c cL_law 4 wsL_law RL (some .boolean) D dA s.heap.size) (hX : va_X b L xs s s.heap) (hbl : b < s.heap.size) (hL : L ≤ 2048) (hj : 4 * j + 4 ≤ L) (R : ReH dA h B) (K : ∀ (h1 : xH) (sz1 : Nat), ReH dA h1 B → XL p l e s m b below meth c D dA 602 [(0, .ref b), (1, .ref B), (2, .ref (B + 279)), (3, .int (nI (4 * j)))] [] h1 sz1) : XL p l e s m b below meth c D dA 177 [(0, .ref b), (1, .ref B), (2, .ref (B + 279)), (3, .int (nI (4 * j)))] [] h sz := by
  obtain ⟨fs4, hb4⟩ := ReH_o R
  obtain ⟨a, Mid, hM4, hM5⟩ := j_told (l := l) (D := D) (sz := sz) (v := xs (4 * j + 1)) R
  refine x_aload_n G dL_law_177 rfl ?_
  refine x_aload_n G dL_law_178 rfl ?_
  refine x_iload_n G dL_law_179 rfl ?_
  refine x_iconstV (v := nI 1) G dL_law_180 (by decide) ?_
  refine x_iadd G dL_law_181 ?_
  refine x_topE (y := nI (4 * j + 1)) (nI_ad _ _) ?_
  refine x_sld (k := 4 * j + 1) G hX hbl rfl (by omega) hL dL_law_182 ?_
  refine x_callV (n := 1) (rest := []) (As := [.int (xs (4 * j + 1))]) G (ci := 4) hM4 gL_law_X4_told rfl ⟨rfl, by decide +kernel, by decide +kernel, by decide +kernel⟩ ⟨by decide, by decide⟩ rfl rfl hb4 dL_law_183 rfl rfl (Nat.le_of_ble_eq_true rfl) ⟨Nat.le_of_ble_eq_true rfl, Nat.le_of_ble_eq_true rfl⟩ ?_
  rintro _ h2 sz2 ⟨rfl, hm⟩
  try dsimp only [Option.toList, List.cons_append, List.nil_append]
  obtain ⟨⟨fs5, hb5⟩, hM5⟩ := hM5 h2 sz2 hm
  refine x_aload_n G dL_law_186 rfl ?_
  refine x_aload_n G dL_law_187 rfl ?_
  refine x_iload_n G dL_law_188 rfl ?_
  refine x_iconstV (v := nI 1) G dL_law_189 (by decide) ?_
  refine x_iadd G dL_law_190 ?_
  refine x_topE (y := nI (4 * j + 1)) (nI_ad _ _) ?_
  refine x_sld (k := 4 * j + 1) G hX hbl rfl (by omega) hL dL_law_191 ?_
  refine x_callV (n := 1) (rest := [.int a]) (As := [.int (xs (4 * j + 1))]) G (ci := 5) hM5 gL_law_X5_told rfl ⟨rfl, by decide +kernel, by decide +kernel, by decide +kernel⟩ ⟨by decide, by decide⟩ rfl rfl hb5 dL_law_192 rfl rfl (Nat.le_of_ble_eq_true rfl) ⟨Nat.le_of_ble_eq_true rfl, Nat.le_of_ble_eq_true rfl⟩ ?_
  rintro _ h3 sz3 ⟨rfl, R3⟩
  try dsimp only [Option.toList, List.cons_append, List.nil_append]
  exact x_icmp_eq G 602 dL_law_195 (by decide) (fun _ => K h3 sz3 R3) (fun q => absurd rfl q)
set_option maxRecDepth 100000 in
set_option maxHeartbeats 4000000 in
theorem lc_say (G : xG p s m #[Value.ref b] meth c cL_law 4 wsL_law RL (some .boolean) D dA s.heap.size) (hX : va_X b L xs s s.heap) (hbl : b < s.heap.size) (hL : L ≤ 2048) (hj : 4 * j + 4 ≤ L) (R : ReH dA h B) (K : ∀ (h1 : xH) (sz1 : Nat), ReH dA h1 B → XL p l e s m b below meth c D dA 602 [(0, .ref b), (1, .ref B), (2, .ref (B + 279)), (3, .int (nI (4 * j)))] [] h1 sz1) : XL p l e s m b below meth c D dA 200 [(0, .ref b), (1, .ref B), (2, .ref (B + 279)), (3, .int (nI (4 * j)))] [] h sz := by
  obtain ⟨fs4, hb4⟩ := ReH_o R
  obtain ⟨a, Mid, hM4, hM5⟩ := j_say (l := l) (D := D) (sz := sz) R
  refine x_aload_n G dL_law_200 rfl ?_
  refine x_callV (n := 0) (rest := []) (As := []) G (ci := 4) hM4 gL_law_X4_say rfl ⟨rfl, by decide +kernel, by decide +kernel, by decide +kernel⟩ ⟨by decide, by decide⟩ rfl rfl hb4 dL_law_201 rfl rfl (Nat.le_of_ble_eq_true rfl) ⟨Nat.le_of_ble_eq_true rfl, Nat.le_of_ble_eq_true rfl⟩ ?_
  rintro _ h2 sz2 ⟨rfl, hm⟩
  try dsimp only [Option.toList, List.cons_append, List.nil_append]
  obtain ⟨⟨fs5, hb5⟩, hM5⟩ := hM5 h2 sz2 hm
  refine x_aload_n G dL_law_204 rfl ?_
  refine x_callV (n := 0) (rest := [.int a]) (As := []) G (ci := 5) hM5 gL_law_X5_say rfl ⟨rfl, by decide +kernel, by decide +kernel, by decide +kernel⟩ ⟨by decide, by decide⟩ rfl rfl hb5 dL_law_205 rfl rfl (Nat.le_of_ble_eq_true rfl) ⟨Nat.le_of_ble_eq_true rfl, Nat.le_of_ble_eq_true rfl⟩ ?_
  rintro _ h3 sz3 ⟨rfl, R3⟩
  try dsimp only [Option.toList, List.cons_append, List.nil_append]
  exact x_icmp_eq G 602 dL_law_208 (by decide) (fun _ => K h3 sz3 R3) (fun q => absurd rfl q)
set_option maxRecDepth 100000 in
set_option maxHeartbeats 4000000 in
theorem lc_back (G : xG p s m #[Value.ref b] meth c cL_law 4 wsL_law RL (some .boolean) D dA s.heap.size) (hX : va_X b L xs s s.heap) (hbl : b < s.heap.size) (hL : L ≤ 2048) (hj : 4 * j + 4 ≤ L) (R : ReH dA h B) (K : ∀ (h1 : xH) (sz1 : Nat), ReH dA h1 B → XL p l e s m b below meth c D dA 602 [(0, .ref b), (1, .ref B), (2, .ref (B + 279)), (3, .int (nI (4 * j)))] [] h1 sz1) : XL p l e s m b below meth c D dA 213 [(0, .ref b), (1, .ref B), (2, .ref (B + 279)), (3, .int (nI (4 * j)))] [] h sz := by
  obtain ⟨fs4, hb4⟩ := ReH_o R
  obtain ⟨a, Mid, hM4, hM5⟩ := j_back (l := l) (D := D) (sz := sz) (v := xs (4 * j + 1)) R
  refine x_aload_n G dL_law_213 rfl ?_
  refine x_aload_n G dL_law_214 rfl ?_
  refine x_iload_n G dL_law_215 rfl ?_
  refine x_iconstV (v := nI 1) G dL_law_216 (by decide) ?_
  refine x_iadd G dL_law_217 ?_
  refine x_topE (y := nI (4 * j + 1)) (nI_ad _ _) ?_
  refine x_sld (k := 4 * j + 1) G hX hbl rfl (by omega) hL dL_law_218 ?_
  refine x_callV (n := 1) (rest := []) (As := [.int (xs (4 * j + 1))]) G (ci := 4) hM4 gL_law_X4_back rfl ⟨rfl, by decide +kernel, by decide +kernel, by decide +kernel⟩ ⟨by decide, by decide⟩ rfl rfl hb4 dL_law_219 rfl rfl (Nat.le_of_ble_eq_true rfl) ⟨Nat.le_of_ble_eq_true rfl, Nat.le_of_ble_eq_true rfl⟩ ?_
  rintro _ h2 sz2 ⟨rfl, hm⟩
  try dsimp only [Option.toList, List.cons_append, List.nil_append]
  obtain ⟨⟨fs5, hb5⟩, hM5⟩ := hM5 h2 sz2 hm
  refine x_aload_n G dL_law_222 rfl ?_
  refine x_aload_n G dL_law_223 rfl ?_
  refine x_iload_n G dL_law_224 rfl ?_
  refine x_iconstV (v := nI 1) G dL_law_225 (by decide) ?_
  refine x_iadd G dL_law_226 ?_
  refine x_topE (y := nI (4 * j + 1)) (nI_ad _ _) ?_
  refine x_sld (k := 4 * j + 1) G hX hbl rfl (by omega) hL dL_law_227 ?_
  refine x_callV (n := 1) (rest := [.int a]) (As := [.int (xs (4 * j + 1))]) G (ci := 5) hM5 gL_law_X5_back rfl ⟨rfl, by decide +kernel, by decide +kernel, by decide +kernel⟩ ⟨by decide, by decide⟩ rfl rfl hb5 dL_law_228 rfl rfl (Nat.le_of_ble_eq_true rfl) ⟨Nat.le_of_ble_eq_true rfl, Nat.le_of_ble_eq_true rfl⟩ ?_
  rintro _ h3 sz3 ⟨rfl, R3⟩
  try dsimp only [Option.toList, List.cons_append, List.nil_append]
  exact x_icmp_eq G 602 dL_law_231 (by decide) (fun _ => K h3 sz3 R3) (fun q => absurd rfl q)
set_option maxRecDepth 100000 in
set_option maxHeartbeats 4000000 in
theorem lc_scale (G : xG p s m #[Value.ref b] meth c cL_law 4 wsL_law RL (some .boolean) D dA s.heap.size) (hX : va_X b L xs s s.heap) (hbl : b < s.heap.size) (hL : L ≤ 2048) (hj : 4 * j + 4 ≤ L) (R : ReH dA h B) (K : ∀ (h1 : xH) (sz1 : Nat), ReH dA h1 B → XL p l e s m b below meth c D dA 602 [(0, .ref b), (1, .ref B), (2, .ref (B + 279)), (3, .int (nI (4 * j)))] [] h1 sz1) : XL p l e s m b below meth c D dA 236 [(0, .ref b), (1, .ref B), (2, .ref (B + 279)), (3, .int (nI (4 * j)))] [] h sz := by
  obtain ⟨fs4, hb4⟩ := ReH_o R
  obtain ⟨a, Mid, hM4, hM5⟩ := j_scale (l := l) (D := D) (sz := sz) (v := xs (4 * j + 1)) (w := xs (4 * j + 2)) (z := xs (4 * j + 3)) R
  refine x_aload_n G dL_law_236 rfl ?_
  refine x_aload_n G dL_law_237 rfl ?_
  refine x_iload_n G dL_law_238 rfl ?_
  refine x_iconstV (v := nI 1) G dL_law_239 (by decide) ?_
  refine x_iadd G dL_law_240 ?_
  refine x_topE (y := nI (4 * j + 1)) (nI_ad _ _) ?_
  refine x_sld (k := 4 * j + 1) G hX hbl rfl (by omega) hL dL_law_241 ?_
  refine x_aload_n G dL_law_242 rfl ?_
  refine x_iload_n G dL_law_243 rfl ?_
  refine x_iconstV (v := nI 2) G dL_law_244 (by decide) ?_
  refine x_iadd G dL_law_245 ?_
  refine x_topE (y := nI (4 * j + 2)) (nI_ad _ _) ?_
  refine x_sld (k := 4 * j + 2) G hX hbl rfl (by omega) hL dL_law_246 ?_
  refine x_aload_n G dL_law_247 rfl ?_
  refine x_iload_n G dL_law_248 rfl ?_
  refine x_iconstV (v := nI 3) G dL_law_249 (by decide) ?_
  refine x_iadd G dL_law_250 ?_
  refine x_topE (y := nI (4 * j + 3)) (nI_ad _ _) ?_
  refine x_sld (k := 4 * j + 3) G hX hbl rfl (by omega) hL dL_law_251 ?_
  refine x_callV (n := 3) (rest := []) (As := [.int (xs (4 * j + 1)), .int (xs (4 * j + 2)), .int (xs (4 * j + 3))]) G (ci := 4) hM4 gL_law_X4_scale rfl ⟨rfl, by decide +kernel, by decide +kernel, by decide +kernel⟩ ⟨by decide, by decide⟩ rfl rfl hb4 dL_law_252 rfl rfl (Nat.le_of_ble_eq_true rfl) ⟨Nat.le_of_ble_eq_true rfl, Nat.le_of_ble_eq_true rfl⟩ ?_
  rintro _ h2 sz2 ⟨rfl, hm⟩
  try dsimp only [Option.toList, List.cons_append, List.nil_append]
  obtain ⟨⟨fs5, hb5⟩, hM5⟩ := hM5 h2 sz2 hm
  refine x_aload_n G dL_law_255 rfl ?_
  refine x_aload_n G dL_law_256 rfl ?_
  refine x_iload_n G dL_law_257 rfl ?_
  refine x_iconstV (v := nI 1) G dL_law_258 (by decide) ?_
  refine x_iadd G dL_law_259 ?_
  refine x_topE (y := nI (4 * j + 1)) (nI_ad _ _) ?_
  refine x_sld (k := 4 * j + 1) G hX hbl rfl (by omega) hL dL_law_260 ?_
  refine x_aload_n G dL_law_261 rfl ?_
  refine x_iload_n G dL_law_262 rfl ?_
  refine x_iconstV (v := nI 2) G dL_law_263 (by decide) ?_
  refine x_iadd G dL_law_264 ?_
  refine x_topE (y := nI (4 * j + 2)) (nI_ad _ _) ?_
  refine x_sld (k := 4 * j + 2) G hX hbl rfl (by omega) hL dL_law_265 ?_
  refine x_aload_n G dL_law_266 rfl ?_
  refine x_iload_n G dL_law_267 rfl ?_
  refine x_iconstV (v := nI 3) G dL_law_268 (by decide) ?_
  refine x_iadd G dL_law_269 ?_
  refine x_topE (y := nI (4 * j + 3)) (nI_ad _ _) ?_
  refine x_sld (k := 4 * j + 3) G hX hbl rfl (by omega) hL dL_law_270 ?_
  refine x_callV (n := 3) (rest := [.int a]) (As := [.int (xs (4 * j + 1)), .int (xs (4 * j + 2)), .int (xs (4 * j + 3))]) G (ci := 5) hM5 gL_law_X5_scale rfl ⟨rfl, by decide +kernel, by decide +kernel, by decide +kernel⟩ ⟨by decide, by decide⟩ rfl rfl hb5 dL_law_271 rfl rfl (Nat.le_of_ble_eq_true rfl) ⟨Nat.le_of_ble_eq_true rfl, Nat.le_of_ble_eq_true rfl⟩ ?_
  rintro _ h3 sz3 ⟨rfl, R3⟩
  try dsimp only [Option.toList, List.cons_append, List.nil_append]
  exact x_icmp_eq G 602 dL_law_274 (by decide) (fun _ => K h3 sz3 R3) (fun q => absurd rfl q)
set_option maxRecDepth 100000 in
set_option maxHeartbeats 4000000 in
theorem lc_drift (G : xG p s m #[Value.ref b] meth c cL_law 4 wsL_law RL (some .boolean) D dA s.heap.size) (hX : va_X b L xs s s.heap) (hbl : b < s.heap.size) (hL : L ≤ 2048) (hj : 4 * j + 4 ≤ L) (R : ReH dA h B) (K : ∀ (h1 : xH) (sz1 : Nat), ReH dA h1 B → XL p l e s m b below meth c D dA 602 [(0, .ref b), (1, .ref B), (2, .ref (B + 279)), (3, .int (nI (4 * j)))] [] h1 sz1) : XL p l e s m b below meth c D dA 279 [(0, .ref b), (1, .ref B), (2, .ref (B + 279)), (3, .int (nI (4 * j)))] [] h sz := by
  obtain ⟨fs4, hb4⟩ := ReH_o R
  obtain ⟨a, Mid, hM4, hM5⟩ := j_drift (l := l) (D := D) (sz := sz) (v := xs (4 * j + 1)) R
  refine x_aload_n G dL_law_279 rfl ?_
  refine x_aload_n G dL_law_280 rfl ?_
  refine x_iload_n G dL_law_281 rfl ?_
  refine x_iconstV (v := nI 1) G dL_law_282 (by decide) ?_
  refine x_iadd G dL_law_283 ?_
  refine x_topE (y := nI (4 * j + 1)) (nI_ad _ _) ?_
  refine x_sld (k := 4 * j + 1) G hX hbl rfl (by omega) hL dL_law_284 ?_
  refine x_callV (n := 1) (rest := []) (As := [.int (xs (4 * j + 1))]) G (ci := 4) hM4 gL_law_X4_drift rfl ⟨rfl, by decide +kernel, by decide +kernel, by decide +kernel⟩ ⟨by decide, by decide⟩ rfl rfl hb4 dL_law_285 rfl rfl (Nat.le_of_ble_eq_true rfl) ⟨Nat.le_of_ble_eq_true rfl, Nat.le_of_ble_eq_true rfl⟩ ?_
  rintro _ h2 sz2 ⟨rfl, hm⟩
  try dsimp only [Option.toList, List.cons_append, List.nil_append]
  obtain ⟨⟨fs5, hb5⟩, hM5⟩ := hM5 h2 sz2 hm
  refine x_aload_n G dL_law_288 rfl ?_
  refine x_aload_n G dL_law_289 rfl ?_
  refine x_iload_n G dL_law_290 rfl ?_
  refine x_iconstV (v := nI 1) G dL_law_291 (by decide) ?_
  refine x_iadd G dL_law_292 ?_
  refine x_topE (y := nI (4 * j + 1)) (nI_ad _ _) ?_
  refine x_sld (k := 4 * j + 1) G hX hbl rfl (by omega) hL dL_law_293 ?_
  refine x_callV (n := 1) (rest := [.int a]) (As := [.int (xs (4 * j + 1))]) G (ci := 5) hM5 gL_law_X5_drift rfl ⟨rfl, by decide +kernel, by decide +kernel, by decide +kernel⟩ ⟨by decide, by decide⟩ rfl rfl hb5 dL_law_294 rfl rfl (Nat.le_of_ble_eq_true rfl) ⟨Nat.le_of_ble_eq_true rfl, Nat.le_of_ble_eq_true rfl⟩ ?_
  rintro _ h3 sz3 ⟨rfl, R3⟩
  try dsimp only [Option.toList, List.cons_append, List.nil_append]
  exact x_icmp_eq G 602 dL_law_297 (by decide) (fun _ => K h3 sz3 R3) (fun q => absurd rfl q)
set_option maxRecDepth 100000 in
set_option maxHeartbeats 4000000 in
theorem lc_undo (G : xG p s m #[Value.ref b] meth c cL_law 4 wsL_law RL (some .boolean) D dA s.heap.size) (hX : va_X b L xs s s.heap) (hbl : b < s.heap.size) (hL : L ≤ 2048) (hj : 4 * j + 4 ≤ L) (R : ReH dA h B) (K : ∀ (h1 : xH) (sz1 : Nat), ReH dA h1 B → XL p l e s m b below meth c D dA 602 [(0, .ref b), (1, .ref B), (2, .ref (B + 279)), (3, .int (nI (4 * j)))] [] h1 sz1) : XL p l e s m b below meth c D dA 302 [(0, .ref b), (1, .ref B), (2, .ref (B + 279)), (3, .int (nI (4 * j)))] [] h sz := by
  obtain ⟨fs4, hb4⟩ := ReH_o R
  obtain ⟨a, Mid, hM4, hM5⟩ := j_undo (l := l) (D := D) (sz := sz) (v := xs (4 * j + 1)) R
  refine x_aload_n G dL_law_302 rfl ?_
  refine x_aload_n G dL_law_303 rfl ?_
  refine x_iload_n G dL_law_304 rfl ?_
  refine x_iconstV (v := nI 1) G dL_law_305 (by decide) ?_
  refine x_iadd G dL_law_306 ?_
  refine x_topE (y := nI (4 * j + 1)) (nI_ad _ _) ?_
  refine x_sld (k := 4 * j + 1) G hX hbl rfl (by omega) hL dL_law_307 ?_
  refine x_callV (n := 1) (rest := []) (As := [.int (xs (4 * j + 1))]) G (ci := 4) hM4 gL_law_X4_undo rfl ⟨rfl, by decide +kernel, by decide +kernel, by decide +kernel⟩ ⟨by decide, by decide⟩ rfl rfl hb4 dL_law_308 rfl rfl (Nat.le_of_ble_eq_true rfl) ⟨Nat.le_of_ble_eq_true rfl, Nat.le_of_ble_eq_true rfl⟩ ?_
  rintro _ h2 sz2 ⟨rfl, hm⟩
  try dsimp only [Option.toList, List.cons_append, List.nil_append]
  obtain ⟨⟨fs5, hb5⟩, hM5⟩ := hM5 h2 sz2 hm
  refine x_aload_n G dL_law_311 rfl ?_
  refine x_aload_n G dL_law_312 rfl ?_
  refine x_iload_n G dL_law_313 rfl ?_
  refine x_iconstV (v := nI 1) G dL_law_314 (by decide) ?_
  refine x_iadd G dL_law_315 ?_
  refine x_topE (y := nI (4 * j + 1)) (nI_ad _ _) ?_
  refine x_sld (k := 4 * j + 1) G hX hbl rfl (by omega) hL dL_law_316 ?_
  refine x_callV (n := 1) (rest := [.int a]) (As := [.int (xs (4 * j + 1))]) G (ci := 5) hM5 gL_law_X5_undo rfl ⟨rfl, by decide +kernel, by decide +kernel, by decide +kernel⟩ ⟨by decide, by decide⟩ rfl rfl hb5 dL_law_317 rfl rfl (Nat.le_of_ble_eq_true rfl) ⟨Nat.le_of_ble_eq_true rfl, Nat.le_of_ble_eq_true rfl⟩ ?_
  rintro _ h3 sz3 ⟨rfl, R3⟩
  try dsimp only [Option.toList, List.cons_append, List.nil_append]
  exact x_icmp_eq G 602 dL_law_320 (by decide) (fun _ => K h3 sz3 R3) (fun q => absurd rfl q)
set_option maxRecDepth 100000 in
set_option maxHeartbeats 4000000 in
theorem lc_saying (G : xG p s m #[Value.ref b] meth c cL_law 4 wsL_law RL (some .boolean) D dA s.heap.size) (hX : va_X b L xs s s.heap) (hbl : b < s.heap.size) (hL : L ≤ 2048) (hj : 4 * j + 4 ≤ L) (R : ReH dA h B) (K : ∀ (h1 : xH) (sz1 : Nat), ReH dA h1 B → XL p l e s m b below meth c D dA 602 [(0, .ref b), (1, .ref B), (2, .ref (B + 279)), (3, .int (nI (4 * j)))] [] h1 sz1) : XL p l e s m b below meth c D dA 325 [(0, .ref b), (1, .ref B), (2, .ref (B + 279)), (3, .int (nI (4 * j)))] [] h sz := by
  obtain ⟨fs4, hb4⟩ := ReH_o R
  obtain ⟨a, Mid, hM4, hM5⟩ := j_saying (l := l) (D := D) (sz := sz) (v := xs (4 * j + 1)) (w := xs (4 * j + 2)) R
  refine x_aload_n G dL_law_325 rfl ?_
  refine x_aload_n G dL_law_326 rfl ?_
  refine x_iload_n G dL_law_327 rfl ?_
  refine x_iconstV (v := nI 1) G dL_law_328 (by decide) ?_
  refine x_iadd G dL_law_329 ?_
  refine x_topE (y := nI (4 * j + 1)) (nI_ad _ _) ?_
  refine x_sld (k := 4 * j + 1) G hX hbl rfl (by omega) hL dL_law_330 ?_
  refine x_aload_n G dL_law_331 rfl ?_
  refine x_iload_n G dL_law_332 rfl ?_
  refine x_iconstV (v := nI 2) G dL_law_333 (by decide) ?_
  refine x_iadd G dL_law_334 ?_
  refine x_topE (y := nI (4 * j + 2)) (nI_ad _ _) ?_
  refine x_sld (k := 4 * j + 2) G hX hbl rfl (by omega) hL dL_law_335 ?_
  refine x_callV (n := 2) (rest := []) (As := [.int (xs (4 * j + 1)), .int (xs (4 * j + 2))]) G (ci := 4) hM4 gL_law_X4_saying rfl ⟨rfl, by decide +kernel, by decide +kernel, by decide +kernel⟩ ⟨by decide, by decide⟩ rfl rfl hb4 dL_law_336 rfl rfl (Nat.le_of_ble_eq_true rfl) ⟨Nat.le_of_ble_eq_true rfl, Nat.le_of_ble_eq_true rfl⟩ ?_
  rintro _ h2 sz2 ⟨rfl, hm⟩
  try dsimp only [Option.toList, List.cons_append, List.nil_append]
  obtain ⟨⟨fs5, hb5⟩, hM5⟩ := hM5 h2 sz2 hm
  refine x_aload_n G dL_law_339 rfl ?_
  refine x_aload_n G dL_law_340 rfl ?_
  refine x_iload_n G dL_law_341 rfl ?_
  refine x_iconstV (v := nI 1) G dL_law_342 (by decide) ?_
  refine x_iadd G dL_law_343 ?_
  refine x_topE (y := nI (4 * j + 1)) (nI_ad _ _) ?_
  refine x_sld (k := 4 * j + 1) G hX hbl rfl (by omega) hL dL_law_344 ?_
  refine x_aload_n G dL_law_345 rfl ?_
  refine x_iload_n G dL_law_346 rfl ?_
  refine x_iconstV (v := nI 2) G dL_law_347 (by decide) ?_
  refine x_iadd G dL_law_348 ?_
  refine x_topE (y := nI (4 * j + 2)) (nI_ad _ _) ?_
  refine x_sld (k := 4 * j + 2) G hX hbl rfl (by omega) hL dL_law_349 ?_
  refine x_callV (n := 2) (rest := [.int a]) (As := [.int (xs (4 * j + 1)), .int (xs (4 * j + 2))]) G (ci := 5) hM5 gL_law_X5_saying rfl ⟨rfl, by decide +kernel, by decide +kernel, by decide +kernel⟩ ⟨by decide, by decide⟩ rfl rfl hb5 dL_law_350 rfl rfl (Nat.le_of_ble_eq_true rfl) ⟨Nat.le_of_ble_eq_true rfl, Nat.le_of_ble_eq_true rfl⟩ ?_
  rintro _ h3 sz3 ⟨rfl, R3⟩
  try dsimp only [Option.toList, List.cons_append, List.nil_append]
  exact x_icmp_eq G 602 dL_law_353 (by decide) (fun _ => K h3 sz3 R3) (fun q => absurd rfl q)
end
