/-! ## The law: its other cases -/
section
variable {p : Program} {l : Launch} {e : Env} {s : State} {m : MethodId} {below : List Frame} {meth : Method} {c : Code} {D : va_G} {dA : Nat → ClassId} {b L j B : Nat} {xs : Nat → Int32} {h : xH} {sz : Nat}
set_option maxRecDepth 100000 in
set_option maxHeartbeats 4000000 in
theorem lc_free (G : xG p s m #[Value.ref b] meth c cL_law 4 wsL_law RL (some .boolean) D dA s.heap.size) (hX : va_X b L xs s s.heap) (hbl : b < s.heap.size) (hL : L ≤ 2048) (hj : 4 * j + 4 ≤ L) (R : ReH dA h B) (K : ∀ (h1 : xH) (sz1 : Nat), ReH dA h1 B → XL p l e s m b below meth c D dA 602 [(0, .ref b), (1, .ref B), (2, .ref (B + 279)), (3, .int (nI (4 * j)))] [] h1 sz1) : XL p l e s m b below meth c D dA 358 [(0, .ref b), (1, .ref B), (2, .ref (B + 279)), (3, .int (nI (4 * j)))] [] h sz := by
  obtain ⟨fs4, hb4⟩ := ReH_o R
  obtain ⟨a, Mid, hM4, hM5⟩ := j_free (l := l) (D := D) (sz := sz) (v := xs (4 * j + 1)) (w := xs (4 * j + 2)) R
  refine x_aload_n G dL_law_358 rfl ?_
  refine x_aload_n G dL_law_359 rfl ?_
  refine x_iload_n G dL_law_360 rfl ?_
  refine x_iconstV (v := nI 1) G dL_law_361 (by decide) ?_
  refine x_iadd G dL_law_362 ?_
  refine x_topE (y := nI (4 * j + 1)) (nI_ad _ _) ?_
  refine x_sld (k := 4 * j + 1) G hX hbl rfl (by omega) hL dL_law_363 ?_
  refine x_aload_n G dL_law_364 rfl ?_
  refine x_iload_n G dL_law_365 rfl ?_
  refine x_iconstV (v := nI 2) G dL_law_366 (by decide) ?_
  refine x_iadd G dL_law_367 ?_
  refine x_topE (y := nI (4 * j + 2)) (nI_ad _ _) ?_
  refine x_sld (k := 4 * j + 2) G hX hbl rfl (by omega) hL dL_law_368 ?_
  refine x_callV (n := 2) (rest := []) (As := [.int (xs (4 * j + 1)), .int (xs (4 * j + 2))]) G (ci := 4) hM4 gL_law_X4_free rfl ⟨rfl, by decide +kernel, by decide +kernel, by decide +kernel⟩ ⟨by decide, by decide⟩ rfl rfl hb4 dL_law_369 rfl rfl (Nat.le_of_ble_eq_true rfl) ⟨Nat.le_of_ble_eq_true rfl, Nat.le_of_ble_eq_true rfl⟩ ?_
  rintro _ h2 sz2 ⟨rfl, hm⟩
  try dsimp only [Option.toList, List.cons_append, List.nil_append]
  obtain ⟨⟨fs5, hb5⟩, hM5⟩ := hM5 h2 sz2 hm
  refine x_aload_n G dL_law_372 rfl ?_
  refine x_aload_n G dL_law_373 rfl ?_
  refine x_iload_n G dL_law_374 rfl ?_
  refine x_iconstV (v := nI 1) G dL_law_375 (by decide) ?_
  refine x_iadd G dL_law_376 ?_
  refine x_topE (y := nI (4 * j + 1)) (nI_ad _ _) ?_
  refine x_sld (k := 4 * j + 1) G hX hbl rfl (by omega) hL dL_law_377 ?_
  refine x_aload_n G dL_law_378 rfl ?_
  refine x_iload_n G dL_law_379 rfl ?_
  refine x_iconstV (v := nI 2) G dL_law_380 (by decide) ?_
  refine x_iadd G dL_law_381 ?_
  refine x_topE (y := nI (4 * j + 2)) (nI_ad _ _) ?_
  refine x_sld (k := 4 * j + 2) G hX hbl rfl (by omega) hL dL_law_382 ?_
  refine x_callV (n := 2) (rest := [.long a]) (As := [.int (xs (4 * j + 1)), .int (xs (4 * j + 2))]) G (ci := 5) hM5 gL_law_X5_free rfl ⟨rfl, by decide +kernel, by decide +kernel, by decide +kernel⟩ ⟨by decide, by decide⟩ rfl rfl hb5 dL_law_383 rfl rfl (Nat.le_of_ble_eq_true rfl) ⟨Nat.le_of_ble_eq_true rfl, Nat.le_of_ble_eq_true rfl⟩ ?_
  rintro _ h3 sz3 ⟨rfl, R3⟩
  try dsimp only [Option.toList, List.cons_append, List.nil_append]
  refine x_lcmp G dL_law_386 ?_
  exact x_if_eq G 602 dL_law_387 (by decide) (fun _ => K h3 sz3 R3) (fun q => absurd cmp_self q)
set_option maxRecDepth 100000 in
set_option maxHeartbeats 4000000 in
theorem lc_least (G : xG p s m #[Value.ref b] meth c cL_law 4 wsL_law RL (some .boolean) D dA s.heap.size) (hX : va_X b L xs s s.heap) (hbl : b < s.heap.size) (hL : L ≤ 2048) (hj : 4 * j + 4 ≤ L) (R : ReH dA h B) (K : ∀ (h1 : xH) (sz1 : Nat), ReH dA h1 B → XL p l e s m b below meth c D dA 602 [(0, .ref b), (1, .ref B), (2, .ref (B + 279)), (3, .int (nI (4 * j)))] [] h1 sz1) : XL p l e s m b below meth c D dA 392 [(0, .ref b), (1, .ref B), (2, .ref (B + 279)), (3, .int (nI (4 * j)))] [] h sz := by
  obtain ⟨fs4, hb4⟩ := ReH_o R
  obtain ⟨a, Mid, hM4, hM5⟩ := j_least (l := l) (D := D) (sz := sz) (v := xs (4 * j + 1)) (w := xs (4 * j + 2)) R
  refine x_aload_n G dL_law_392 rfl ?_
  refine x_aload_n G dL_law_393 rfl ?_
  refine x_iload_n G dL_law_394 rfl ?_
  refine x_iconstV (v := nI 1) G dL_law_395 (by decide) ?_
  refine x_iadd G dL_law_396 ?_
  refine x_topE (y := nI (4 * j + 1)) (nI_ad _ _) ?_
  refine x_sld (k := 4 * j + 1) G hX hbl rfl (by omega) hL dL_law_397 ?_
  refine x_aload_n G dL_law_398 rfl ?_
  refine x_iload_n G dL_law_399 rfl ?_
  refine x_iconstV (v := nI 2) G dL_law_400 (by decide) ?_
  refine x_iadd G dL_law_401 ?_
  refine x_topE (y := nI (4 * j + 2)) (nI_ad _ _) ?_
  refine x_sld (k := 4 * j + 2) G hX hbl rfl (by omega) hL dL_law_402 ?_
  refine x_callV (n := 2) (rest := []) (As := [.int (xs (4 * j + 1)), .int (xs (4 * j + 2))]) G (ci := 4) hM4 gL_law_X4_least rfl ⟨rfl, by decide +kernel, by decide +kernel, by decide +kernel⟩ ⟨by decide, by decide⟩ rfl rfl hb4 dL_law_403 rfl rfl (Nat.le_of_ble_eq_true rfl) ⟨Nat.le_of_ble_eq_true rfl, Nat.le_of_ble_eq_true rfl⟩ ?_
  rintro _ h2 sz2 ⟨rfl, hm⟩
  try dsimp only [Option.toList, List.cons_append, List.nil_append]
  obtain ⟨⟨fs5, hb5⟩, hM5⟩ := hM5 h2 sz2 hm
  refine x_aload_n G dL_law_406 rfl ?_
  refine x_aload_n G dL_law_407 rfl ?_
  refine x_iload_n G dL_law_408 rfl ?_
  refine x_iconstV (v := nI 1) G dL_law_409 (by decide) ?_
  refine x_iadd G dL_law_410 ?_
  refine x_topE (y := nI (4 * j + 1)) (nI_ad _ _) ?_
  refine x_sld (k := 4 * j + 1) G hX hbl rfl (by omega) hL dL_law_411 ?_
  refine x_aload_n G dL_law_412 rfl ?_
  refine x_iload_n G dL_law_413 rfl ?_
  refine x_iconstV (v := nI 2) G dL_law_414 (by decide) ?_
  refine x_iadd G dL_law_415 ?_
  refine x_topE (y := nI (4 * j + 2)) (nI_ad _ _) ?_
  refine x_sld (k := 4 * j + 2) G hX hbl rfl (by omega) hL dL_law_416 ?_
  refine x_callV (n := 2) (rest := [.long a]) (As := [.int (xs (4 * j + 1)), .int (xs (4 * j + 2))]) G (ci := 5) hM5 gL_law_X5_least rfl ⟨rfl, by decide +kernel, by decide +kernel, by decide +kernel⟩ ⟨by decide, by decide⟩ rfl rfl hb5 dL_law_417 rfl rfl (Nat.le_of_ble_eq_true rfl) ⟨Nat.le_of_ble_eq_true rfl, Nat.le_of_ble_eq_true rfl⟩ ?_
  rintro _ h3 sz3 ⟨rfl, R3⟩
  try dsimp only [Option.toList, List.cons_append, List.nil_append]
  refine x_lcmp G dL_law_420 ?_
  exact x_if_eq G 602 dL_law_421 (by decide) (fun _ => K h3 sz3 R3) (fun q => absurd cmp_self q)
set_option maxRecDepth 100000 in
set_option maxHeartbeats 4000000 in
theorem lc_isTold (G : xG p s m #[Value.ref b] meth c cL_law 4 wsL_law RL (some .boolean) D dA s.heap.size) (hX : va_X b L xs s s.heap) (hbl : b < s.heap.size) (hL : L ≤ 2048) (hj : 4 * j + 4 ≤ L) (R : ReH dA h B) (K : ∀ (h1 : xH) (sz1 : Nat), ReH dA h1 B → XL p l e s m b below meth c D dA 602 [(0, .ref b), (1, .ref B), (2, .ref (B + 279)), (3, .int (nI (4 * j)))] [] h1 sz1) : XL p l e s m b below meth c D dA 426 [(0, .ref b), (1, .ref B), (2, .ref (B + 279)), (3, .int (nI (4 * j)))] [] h sz := by
  obtain ⟨fs4, hb4⟩ := ReH_o R
  obtain ⟨a, Mid, hM4, hM5⟩ := j_isTold (l := l) (D := D) (sz := sz) (v := xs (4 * j + 1)) R
  refine x_aload_n G dL_law_426 rfl ?_
  refine x_aload_n G dL_law_427 rfl ?_
  refine x_iload_n G dL_law_428 rfl ?_
  refine x_iconstV (v := nI 1) G dL_law_429 (by decide) ?_
  refine x_iadd G dL_law_430 ?_
  refine x_topE (y := nI (4 * j + 1)) (nI_ad _ _) ?_
  refine x_sld (k := 4 * j + 1) G hX hbl rfl (by omega) hL dL_law_431 ?_
  refine x_callV (n := 1) (rest := []) (As := [.int (xs (4 * j + 1))]) G (ci := 4) hM4 gL_law_X4_isTold rfl ⟨rfl, by decide +kernel, by decide +kernel, by decide +kernel⟩ ⟨by decide, by decide⟩ rfl rfl hb4 dL_law_432 rfl rfl (Nat.le_of_ble_eq_true rfl) ⟨Nat.le_of_ble_eq_true rfl, Nat.le_of_ble_eq_true rfl⟩ ?_
  rintro _ h2 sz2 ⟨rfl, hm⟩
  try dsimp only [Option.toList, List.cons_append, List.nil_append]
  obtain ⟨⟨fs5, hb5⟩, hM5⟩ := hM5 h2 sz2 hm
  refine x_aload_n G dL_law_435 rfl ?_
  refine x_aload_n G dL_law_436 rfl ?_
  refine x_iload_n G dL_law_437 rfl ?_
  refine x_iconstV (v := nI 1) G dL_law_438 (by decide) ?_
  refine x_iadd G dL_law_439 ?_
  refine x_topE (y := nI (4 * j + 1)) (nI_ad _ _) ?_
  refine x_sld (k := 4 * j + 1) G hX hbl rfl (by omega) hL dL_law_440 ?_
  refine x_callV (n := 1) (rest := [.int a]) (As := [.int (xs (4 * j + 1))]) G (ci := 5) hM5 gL_law_X5_isTold rfl ⟨rfl, by decide +kernel, by decide +kernel, by decide +kernel⟩ ⟨by decide, by decide⟩ rfl rfl hb5 dL_law_441 rfl rfl (Nat.le_of_ble_eq_true rfl) ⟨Nat.le_of_ble_eq_true rfl, Nat.le_of_ble_eq_true rfl⟩ ?_
  rintro _ h3 sz3 ⟨rfl, R3⟩
  try dsimp only [Option.toList, List.cons_append, List.nil_append]
  exact x_icmp_eq G 602 dL_law_444 (by decide) (fun _ => K h3 sz3 R3) (fun q => absurd rfl q)
set_option maxRecDepth 100000 in
set_option maxHeartbeats 4000000 in
theorem lc_follows (G : xG p s m #[Value.ref b] meth c cL_law 4 wsL_law RL (some .boolean) D dA s.heap.size) (hX : va_X b L xs s s.heap) (hbl : b < s.heap.size) (hL : L ≤ 2048) (hj : 4 * j + 4 ≤ L) (R : ReH dA h B) (K : ∀ (h1 : xH) (sz1 : Nat), ReH dA h1 B → XL p l e s m b below meth c D dA 602 [(0, .ref b), (1, .ref B), (2, .ref (B + 279)), (3, .int (nI (4 * j)))] [] h1 sz1) : XL p l e s m b below meth c D dA 449 [(0, .ref b), (1, .ref B), (2, .ref (B + 279)), (3, .int (nI (4 * j)))] [] h sz := by
  obtain ⟨fs4, hb4⟩ := ReH_o R
  obtain ⟨a, Mid, hM4, hM5⟩ := j_follows (l := l) (D := D) (sz := sz) R
  refine x_aload_n G dL_law_449 rfl ?_
  refine x_callV (n := 0) (rest := []) (As := []) G (ci := 4) hM4 gL_law_X4_follows rfl ⟨rfl, by decide +kernel, by decide +kernel, by decide +kernel⟩ ⟨by decide, by decide⟩ rfl rfl hb4 dL_law_450 rfl rfl (Nat.le_of_ble_eq_true rfl) ⟨Nat.le_of_ble_eq_true rfl, Nat.le_of_ble_eq_true rfl⟩ ?_
  rintro _ h2 sz2 ⟨rfl, hm⟩
  try dsimp only [Option.toList, List.cons_append, List.nil_append]
  obtain ⟨⟨fs5, hb5⟩, hM5⟩ := hM5 h2 sz2 hm
  refine x_aload_n G dL_law_453 rfl ?_
  refine x_callV (n := 0) (rest := [.int a]) (As := []) G (ci := 5) hM5 gL_law_X5_follows rfl ⟨rfl, by decide +kernel, by decide +kernel, by decide +kernel⟩ ⟨by decide, by decide⟩ rfl rfl hb5 dL_law_454 rfl rfl (Nat.le_of_ble_eq_true rfl) ⟨Nat.le_of_ble_eq_true rfl, Nat.le_of_ble_eq_true rfl⟩ ?_
  rintro _ h3 sz3 ⟨rfl, R3⟩
  try dsimp only [Option.toList, List.cons_append, List.nil_append]
  exact x_icmp_eq G 602 dL_law_457 (by decide) (fun _ => K h3 sz3 R3) (fun q => absurd rfl q)
set_option maxRecDepth 100000 in
set_option maxHeartbeats 4000000 in
theorem lc_couldBe (G : xG p s m #[Value.ref b] meth c cL_law 4 wsL_law RL (some .boolean) D dA s.heap.size) (hX : va_X b L xs s s.heap) (hbl : b < s.heap.size) (hL : L ≤ 2048) (hj : 4 * j + 4 ≤ L) (R : ReH dA h B) (K : ∀ (h1 : xH) (sz1 : Nat), ReH dA h1 B → XL p l e s m b below meth c D dA 602 [(0, .ref b), (1, .ref B), (2, .ref (B + 279)), (3, .int (nI (4 * j)))] [] h1 sz1) : XL p l e s m b below meth c D dA 462 [(0, .ref b), (1, .ref B), (2, .ref (B + 279)), (3, .int (nI (4 * j)))] [] h sz := by
  obtain ⟨fs4, hb4⟩ := ReH_o R
  obtain ⟨a, Mid, hM4, hM5⟩ := j_couldBe (l := l) (D := D) (sz := sz) R
  refine x_aload_n G dL_law_462 rfl ?_
  refine x_callV (n := 0) (rest := []) (As := []) G (ci := 4) hM4 gL_law_X4_couldBe rfl ⟨rfl, by decide +kernel, by decide +kernel, by decide +kernel⟩ ⟨by decide, by decide⟩ rfl rfl hb4 dL_law_463 rfl rfl (Nat.le_of_ble_eq_true rfl) ⟨Nat.le_of_ble_eq_true rfl, Nat.le_of_ble_eq_true rfl⟩ ?_
  rintro _ h2 sz2 ⟨rfl, hm⟩
  try dsimp only [Option.toList, List.cons_append, List.nil_append]
  obtain ⟨⟨fs5, hb5⟩, hM5⟩ := hM5 h2 sz2 hm
  refine x_aload_n G dL_law_466 rfl ?_
  refine x_callV (n := 0) (rest := [.int a]) (As := []) G (ci := 5) hM5 gL_law_X5_couldBe rfl ⟨rfl, by decide +kernel, by decide +kernel, by decide +kernel⟩ ⟨by decide, by decide⟩ rfl rfl hb5 dL_law_467 rfl rfl (Nat.le_of_ble_eq_true rfl) ⟨Nat.le_of_ble_eq_true rfl, Nat.le_of_ble_eq_true rfl⟩ ?_
  rintro _ h3 sz3 ⟨rfl, R3⟩
  try dsimp only [Option.toList, List.cons_append, List.nil_append]
  exact x_icmp_eq G 602 dL_law_470 (by decide) (fun _ => K h3 sz3 R3) (fun q => absurd rfl q)
set_option maxRecDepth 100000 in
set_option maxHeartbeats 4000000 in
theorem lc_measured (G : xG p s m #[Value.ref b] meth c cL_law 4 wsL_law RL (some .boolean) D dA s.heap.size) (hX : va_X b L xs s s.heap) (hbl : b < s.heap.size) (hL : L ≤ 2048) (hj : 4 * j + 4 ≤ L) (R : ReH dA h B) (K : ∀ (h1 : xH) (sz1 : Nat), ReH dA h1 B → XL p l e s m b below meth c D dA 602 [(0, .ref b), (1, .ref B), (2, .ref (B + 279)), (3, .int (nI (4 * j)))] [] h1 sz1) : XL p l e s m b below meth c D dA 475 [(0, .ref b), (1, .ref B), (2, .ref (B + 279)), (3, .int (nI (4 * j)))] [] h sz := by
  obtain ⟨fs4, hb4⟩ := ReH_o R
  obtain ⟨a, Mid, hM4, hM5⟩ := j_measured (l := l) (D := D) (sz := sz) (v := xs (4 * j + 1)) R
  refine x_aload_n G dL_law_475 rfl ?_
  refine x_aload_n G dL_law_476 rfl ?_
  refine x_iload_n G dL_law_477 rfl ?_
  refine x_iconstV (v := nI 1) G dL_law_478 (by decide) ?_
  refine x_iadd G dL_law_479 ?_
  refine x_topE (y := nI (4 * j + 1)) (nI_ad _ _) ?_
  refine x_sld (k := 4 * j + 1) G hX hbl rfl (by omega) hL dL_law_480 ?_
  refine x_callV (n := 1) (rest := []) (As := [.int (xs (4 * j + 1))]) G (ci := 4) hM4 gL_law_X4_measured rfl ⟨rfl, by decide +kernel, by decide +kernel, by decide +kernel⟩ ⟨by decide, by decide⟩ rfl rfl hb4 dL_law_481 rfl rfl (Nat.le_of_ble_eq_true rfl) ⟨Nat.le_of_ble_eq_true rfl, Nat.le_of_ble_eq_true rfl⟩ ?_
  rintro _ h2 sz2 ⟨rfl, hm⟩
  try dsimp only [Option.toList, List.cons_append, List.nil_append]
  obtain ⟨⟨fs5, hb5⟩, hM5⟩ := hM5 h2 sz2 hm
  refine x_aload_n G dL_law_484 rfl ?_
  refine x_aload_n G dL_law_485 rfl ?_
  refine x_iload_n G dL_law_486 rfl ?_
  refine x_iconstV (v := nI 1) G dL_law_487 (by decide) ?_
  refine x_iadd G dL_law_488 ?_
  refine x_topE (y := nI (4 * j + 1)) (nI_ad _ _) ?_
  refine x_sld (k := 4 * j + 1) G hX hbl rfl (by omega) hL dL_law_489 ?_
  refine x_callV (n := 1) (rest := [.long a]) (As := [.int (xs (4 * j + 1))]) G (ci := 5) hM5 gL_law_X5_measured rfl ⟨rfl, by decide +kernel, by decide +kernel, by decide +kernel⟩ ⟨by decide, by decide⟩ rfl rfl hb5 dL_law_490 rfl rfl (Nat.le_of_ble_eq_true rfl) ⟨Nat.le_of_ble_eq_true rfl, Nat.le_of_ble_eq_true rfl⟩ ?_
  rintro _ h3 sz3 ⟨rfl, R3⟩
  try dsimp only [Option.toList, List.cons_append, List.nil_append]
  refine x_lcmp G dL_law_493 ?_
  exact x_if_eq G 602 dL_law_494 (by decide) (fun _ => K h3 sz3 R3) (fun q => absurd cmp_self q)
set_option maxRecDepth 100000 in
set_option maxHeartbeats 4000000 in
theorem lc_converted (G : xG p s m #[Value.ref b] meth c cL_law 4 wsL_law RL (some .boolean) D dA s.heap.size) (hX : va_X b L xs s s.heap) (hbl : b < s.heap.size) (hL : L ≤ 2048) (hj : 4 * j + 4 ≤ L) (R : ReH dA h B) (K : ∀ (h1 : xH) (sz1 : Nat), ReH dA h1 B → XL p l e s m b below meth c D dA 602 [(0, .ref b), (1, .ref B), (2, .ref (B + 279)), (3, .int (nI (4 * j)))] [] h1 sz1) : XL p l e s m b below meth c D dA 499 [(0, .ref b), (1, .ref B), (2, .ref (B + 279)), (3, .int (nI (4 * j)))] [] h sz := by
  obtain ⟨fs4, hb4⟩ := ReH_o R
  obtain ⟨a, Mid, hM4, hM5⟩ := j_converted (l := l) (D := D) (sz := sz) (v := xs (4 * j + 1)) (w := xs (4 * j + 2)) R
  refine x_aload_n G dL_law_499 rfl ?_
  refine x_aload_n G dL_law_500 rfl ?_
  refine x_iload_n G dL_law_501 rfl ?_
  refine x_iconstV (v := nI 1) G dL_law_502 (by decide) ?_
  refine x_iadd G dL_law_503 ?_
  refine x_topE (y := nI (4 * j + 1)) (nI_ad _ _) ?_
  refine x_sld (k := 4 * j + 1) G hX hbl rfl (by omega) hL dL_law_504 ?_
  refine x_aload_n G dL_law_505 rfl ?_
  refine x_iload_n G dL_law_506 rfl ?_
  refine x_iconstV (v := nI 2) G dL_law_507 (by decide) ?_
  refine x_iadd G dL_law_508 ?_
  refine x_topE (y := nI (4 * j + 2)) (nI_ad _ _) ?_
  refine x_sld (k := 4 * j + 2) G hX hbl rfl (by omega) hL dL_law_509 ?_
  refine x_callV (n := 2) (rest := []) (As := [.int (xs (4 * j + 1)), .int (xs (4 * j + 2))]) G (ci := 4) hM4 gL_law_X4_converted rfl ⟨rfl, by decide +kernel, by decide +kernel, by decide +kernel⟩ ⟨by decide, by decide⟩ rfl rfl hb4 dL_law_510 rfl rfl (Nat.le_of_ble_eq_true rfl) ⟨Nat.le_of_ble_eq_true rfl, Nat.le_of_ble_eq_true rfl⟩ ?_
  rintro _ h2 sz2 ⟨rfl, hm⟩
  try dsimp only [Option.toList, List.cons_append, List.nil_append]
  obtain ⟨⟨fs5, hb5⟩, hM5⟩ := hM5 h2 sz2 hm
  refine x_aload_n G dL_law_513 rfl ?_
  refine x_aload_n G dL_law_514 rfl ?_
  refine x_iload_n G dL_law_515 rfl ?_
  refine x_iconstV (v := nI 1) G dL_law_516 (by decide) ?_
  refine x_iadd G dL_law_517 ?_
  refine x_topE (y := nI (4 * j + 1)) (nI_ad _ _) ?_
  refine x_sld (k := 4 * j + 1) G hX hbl rfl (by omega) hL dL_law_518 ?_
  refine x_aload_n G dL_law_519 rfl ?_
  refine x_iload_n G dL_law_520 rfl ?_
  refine x_iconstV (v := nI 2) G dL_law_521 (by decide) ?_
  refine x_iadd G dL_law_522 ?_
  refine x_topE (y := nI (4 * j + 2)) (nI_ad _ _) ?_
  refine x_sld (k := 4 * j + 2) G hX hbl rfl (by omega) hL dL_law_523 ?_
  refine x_callV (n := 2) (rest := [.long a]) (As := [.int (xs (4 * j + 1)), .int (xs (4 * j + 2))]) G (ci := 5) hM5 gL_law_X5_converted rfl ⟨rfl, by decide +kernel, by decide +kernel, by decide +kernel⟩ ⟨by decide, by decide⟩ rfl rfl hb5 dL_law_524 rfl rfl (Nat.le_of_ble_eq_true rfl) ⟨Nat.le_of_ble_eq_true rfl, Nat.le_of_ble_eq_true rfl⟩ ?_
  rintro _ h3 sz3 ⟨rfl, R3⟩
  try dsimp only [Option.toList, List.cons_append, List.nil_append]
  refine x_lcmp G dL_law_527 ?_
  exact x_if_eq G 602 dL_law_528 (by decide) (fun _ => K h3 sz3 R3) (fun q => absurd cmp_self q)
set_option maxRecDepth 100000 in
set_option maxHeartbeats 4000000 in
theorem lc_seed (G : xG p s m #[Value.ref b] meth c cL_law 4 wsL_law RL (some .boolean) D dA s.heap.size) (hX : va_X b L xs s s.heap) (hbl : b < s.heap.size) (hL : L ≤ 2048) (hj : 4 * j + 4 ≤ L) (R : ReH dA h B) (K : ∀ (h1 : xH) (sz1 : Nat), ReH dA h1 B → XL p l e s m b below meth c D dA 602 [(0, .ref b), (1, .ref B), (2, .ref (B + 279)), (3, .int (nI (4 * j)))] [] h1 sz1) : XL p l e s m b below meth c D dA 533 [(0, .ref b), (1, .ref B), (2, .ref (B + 279)), (3, .int (nI (4 * j)))] [] h sz := by
  obtain ⟨fs4, hb4⟩ := ReH_o R
  obtain ⟨a, Mid, hM4, hM5⟩ := j_seed (l := l) (D := D) (sz := sz) (v := xs (4 * j + 1)) R
  refine x_aload_n G dL_law_533 rfl ?_
  refine x_aload_n G dL_law_534 rfl ?_
  refine x_iload_n G dL_law_535 rfl ?_
  refine x_iconstV (v := nI 1) G dL_law_536 (by decide) ?_
  refine x_iadd G dL_law_537 ?_
  refine x_topE (y := nI (4 * j + 1)) (nI_ad _ _) ?_
  refine x_sld (k := 4 * j + 1) G hX hbl rfl (by omega) hL dL_law_538 ?_
  refine x_callV (n := 1) (rest := []) (As := [.int (xs (4 * j + 1))]) G (ci := 4) hM4 gL_law_X4_seed rfl ⟨rfl, by decide +kernel, by decide +kernel, by decide +kernel⟩ ⟨by decide, by decide⟩ rfl rfl hb4 dL_law_539 rfl rfl (Nat.le_of_ble_eq_true rfl) ⟨Nat.le_of_ble_eq_true rfl, Nat.le_of_ble_eq_true rfl⟩ ?_
  rintro _ h2 sz2 ⟨rfl, hm⟩
  try dsimp only [Option.toList, List.cons_append, List.nil_append]
  obtain ⟨⟨fs5, hb5⟩, hM5⟩ := hM5 h2 sz2 hm
  refine x_aload_n G dL_law_542 rfl ?_
  refine x_aload_n G dL_law_543 rfl ?_
  refine x_iload_n G dL_law_544 rfl ?_
  refine x_iconstV (v := nI 1) G dL_law_545 (by decide) ?_
  refine x_iadd G dL_law_546 ?_
  refine x_topE (y := nI (4 * j + 1)) (nI_ad _ _) ?_
  refine x_sld (k := 4 * j + 1) G hX hbl rfl (by omega) hL dL_law_547 ?_
  refine x_callV (n := 1) (rest := [.int a]) (As := [.int (xs (4 * j + 1))]) G (ci := 5) hM5 gL_law_X5_seed rfl ⟨rfl, by decide +kernel, by decide +kernel, by decide +kernel⟩ ⟨by decide, by decide⟩ rfl rfl hb5 dL_law_548 rfl rfl (Nat.le_of_ble_eq_true rfl) ⟨Nat.le_of_ble_eq_true rfl, Nat.le_of_ble_eq_true rfl⟩ ?_
  rintro _ h3 sz3 ⟨rfl, R3⟩
  try dsimp only [Option.toList, List.cons_append, List.nil_append]
  exact x_icmp_eq G 602 dL_law_551 (by decide) (fun _ => K h3 sz3 R3) (fun q => absurd rfl q)
set_option maxRecDepth 100000 in
set_option maxHeartbeats 4000000 in
theorem lc_keep (G : xG p s m #[Value.ref b] meth c cL_law 4 wsL_law RL (some .boolean) D dA s.heap.size) (hX : va_X b L xs s s.heap) (hbl : b < s.heap.size) (hL : L ≤ 2048) (hj : 4 * j + 4 ≤ L) (R : ReH dA h B) (K : ∀ (h1 : xH) (sz1 : Nat), ReH dA h1 B → XL p l e s m b below meth c D dA 602 [(0, .ref b), (1, .ref B), (2, .ref (B + 279)), (3, .int (nI (4 * j)))] [] h1 sz1) : XL p l e s m b below meth c D dA 556 [(0, .ref b), (1, .ref B), (2, .ref (B + 279)), (3, .int (nI (4 * j)))] [] h sz := by
  obtain ⟨fs4, hb4⟩ := ReH_o R
  obtain ⟨a, Mid, hM4, hM5⟩ := j_keep (l := l) (D := D) (sz := sz) (v := xs (4 * j + 1)) R
  refine x_aload_n G dL_law_556 rfl ?_
  refine x_aload_n G dL_law_557 rfl ?_
  refine x_iload_n G dL_law_558 rfl ?_
  refine x_iconstV (v := nI 1) G dL_law_559 (by decide) ?_
  refine x_iadd G dL_law_560 ?_
  refine x_topE (y := nI (4 * j + 1)) (nI_ad _ _) ?_
  refine x_sld (k := 4 * j + 1) G hX hbl rfl (by omega) hL dL_law_561 ?_
  refine x_callV (n := 1) (rest := []) (As := [.int (xs (4 * j + 1))]) G (ci := 4) hM4 gL_law_X4_keep rfl ⟨rfl, by decide +kernel, by decide +kernel, by decide +kernel⟩ ⟨by decide, by decide⟩ rfl rfl hb4 dL_law_562 rfl rfl (Nat.le_of_ble_eq_true rfl) ⟨Nat.le_of_ble_eq_true rfl, Nat.le_of_ble_eq_true rfl⟩ ?_
  rintro _ h2 sz2 ⟨rfl, hm⟩
  try dsimp only [Option.toList, List.cons_append, List.nil_append]
  obtain ⟨⟨fs5, hb5⟩, hM5⟩ := hM5 h2 sz2 hm
  refine x_aload_n G dL_law_565 rfl ?_
  refine x_aload_n G dL_law_566 rfl ?_
  refine x_iload_n G dL_law_567 rfl ?_
  refine x_iconstV (v := nI 1) G dL_law_568 (by decide) ?_
  refine x_iadd G dL_law_569 ?_
  refine x_topE (y := nI (4 * j + 1)) (nI_ad _ _) ?_
  refine x_sld (k := 4 * j + 1) G hX hbl rfl (by omega) hL dL_law_570 ?_
  refine x_callV (n := 1) (rest := [.int a]) (As := [.int (xs (4 * j + 1))]) G (ci := 5) hM5 gL_law_X5_keep rfl ⟨rfl, by decide +kernel, by decide +kernel, by decide +kernel⟩ ⟨by decide, by decide⟩ rfl rfl hb5 dL_law_571 rfl rfl (Nat.le_of_ble_eq_true rfl) ⟨Nat.le_of_ble_eq_true rfl, Nat.le_of_ble_eq_true rfl⟩ ?_
  rintro _ h3 sz3 ⟨rfl, R3⟩
  try dsimp only [Option.toList, List.cons_append, List.nil_append]
  exact x_icmp_eq G 602 dL_law_574 (by decide) (fun _ => K h3 sz3 R3) (fun q => absurd rfl q)
set_option maxRecDepth 100000 in
set_option maxHeartbeats 4000000 in
theorem lc_goBack (G : xG p s m #[Value.ref b] meth c cL_law 4 wsL_law RL (some .boolean) D dA s.heap.size) (hX : va_X b L xs s s.heap) (hbl : b < s.heap.size) (hL : L ≤ 2048) (hj : 4 * j + 4 ≤ L) (R : ReH dA h B) (K : ∀ (h1 : xH) (sz1 : Nat), ReH dA h1 B → XL p l e s m b below meth c D dA 602 [(0, .ref b), (1, .ref B), (2, .ref (B + 279)), (3, .int (nI (4 * j)))] [] h1 sz1) : XL p l e s m b below meth c D dA 579 [(0, .ref b), (1, .ref B), (2, .ref (B + 279)), (3, .int (nI (4 * j)))] [] h sz := by
  obtain ⟨fs4, hb4⟩ := ReH_o R
  obtain ⟨a, Mid, hM4, hM5⟩ := j_goBack (l := l) (D := D) (sz := sz) (v := xs (4 * j + 1)) R
  refine x_aload_n G dL_law_579 rfl ?_
  refine x_aload_n G dL_law_580 rfl ?_
  refine x_iload_n G dL_law_581 rfl ?_
  refine x_iconstV (v := nI 1) G dL_law_582 (by decide) ?_
  refine x_iadd G dL_law_583 ?_
  refine x_topE (y := nI (4 * j + 1)) (nI_ad _ _) ?_
  refine x_sld (k := 4 * j + 1) G hX hbl rfl (by omega) hL dL_law_584 ?_
  refine x_callV (n := 1) (rest := []) (As := [.int (xs (4 * j + 1))]) G (ci := 4) hM4 gL_law_X4_goBack rfl ⟨rfl, by decide +kernel, by decide +kernel, by decide +kernel⟩ ⟨by decide, by decide⟩ rfl rfl hb4 dL_law_585 rfl rfl (Nat.le_of_ble_eq_true rfl) ⟨Nat.le_of_ble_eq_true rfl, Nat.le_of_ble_eq_true rfl⟩ ?_
  rintro _ h2 sz2 ⟨rfl, hm⟩
  try dsimp only [Option.toList, List.cons_append, List.nil_append]
  obtain ⟨⟨fs5, hb5⟩, hM5⟩ := hM5 h2 sz2 hm
  refine x_aload_n G dL_law_588 rfl ?_
  refine x_aload_n G dL_law_589 rfl ?_
  refine x_iload_n G dL_law_590 rfl ?_
  refine x_iconstV (v := nI 1) G dL_law_591 (by decide) ?_
  refine x_iadd G dL_law_592 ?_
  refine x_topE (y := nI (4 * j + 1)) (nI_ad _ _) ?_
  refine x_sld (k := 4 * j + 1) G hX hbl rfl (by omega) hL dL_law_593 ?_
  refine x_callV (n := 1) (rest := [.int a]) (As := [.int (xs (4 * j + 1))]) G (ci := 5) hM5 gL_law_X5_goBack rfl ⟨rfl, by decide +kernel, by decide +kernel, by decide +kernel⟩ ⟨by decide, by decide⟩ rfl rfl hb5 dL_law_594 rfl rfl (Nat.le_of_ble_eq_true rfl) ⟨Nat.le_of_ble_eq_true rfl, Nat.le_of_ble_eq_true rfl⟩ ?_
  rintro _ h3 sz3 ⟨rfl, R3⟩
  try dsimp only [Option.toList, List.cons_append, List.nil_append]
  exact x_icmp_eq G 602 dL_law_597 (by decide) (fun _ => K h3 sz3 R3) (fun q => absurd rfl q)
end
