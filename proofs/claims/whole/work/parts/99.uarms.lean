section LA
variable {Z : lj_Z} {i cells slots : Nat} {M m9 : bc_M} {f : Nat → Int64}
set_option maxRecDepth 20000 in
theorem arm_feed (C : lj_H Z) (hR : REL M m9) (hi : i + 8 ≤ lj_n Z) (hc : cells + 1 ≤ 601024) (hs : slots + 6 ≤ 7293034) (kk : ∀ ν ξ f', REL ν ξ → lj Z 2365 (lj_b Z i) [] ν ξ f' (cells + 1) (slots + 6)) : lj Z 212 (lj_b Z i) [] M m9 f cells slots := by
  obtain ⟨v, A, B, hv, hC, hM, hr⟩ := p_feed (a := lj_v Z (i + 1)) (b := lj_v Z (i + 2)) (c := lj_v Z (i + 3)) (e := lj_v Z (i + 4)) (f := lj_v Z (i + 5)) hR
  rcases hv with ⟨q, -⟩ | ⟨-, x, rfl⟩
  · first | (cases q; done) | exact absurd q (by decide)
  refine lj_al (i := i) (k := 1) C lj_L.rf 1 rfl dL_law__212 ?_
  refine lj_arg (i := i) (k := 1) C lj_L.rf rfl (by omega) dL_law__213 dL_law__214 dL_law__216 dL_law__217 dL_law__218 ?_
  refine lj_arg (i := i) (k := 2) C lj_L.rf rfl (by omega) dL_law__219 dL_law__220 dL_law__222 dL_law__223 dL_law__224 ?_
  refine lj_arg (i := i) (k := 3) C lj_L.rf rfl (by omega) dL_law__225 dL_law__226 dL_law__228 dL_law__229 dL_law__230 ?_
  refine lj_arg (i := i) (k := 4) C lj_L.rf rfl (by omega) dL_law__231 dL_law__232 dL_law__234 dL_law__235 dL_law__236 ?_
  refine lj_arg (i := i) (k := 5) C lj_L.rf rfl (by omega) dL_law__237 dL_law__238 dL_law__240 dL_law__241 dL_law__242 ?_
  refine lj_cl (st := []) (as := [.int (lj_v Z (i + 1)), .int (lj_v Z (i + 2)), .int (lj_v Z (i + 3)), .int (lj_v Z (i + 4)), .int (lj_v Z (i + 5))]) C dL_law__243 lL_111 qX9_feed rfl rfl (fun _ => rfl) (fun _ => rfl) rfl (by decide) (by omega) (by omega) hC (fun ν hA => ?_)
  refine lj_al (i := i) (k := 2) C lj_L.rf 2 rfl dL_law__246 ?_
  refine lj_arg (i := i) (k := 1) C lj_L.rf rfl (by omega) dL_law__247 dL_law__248 dL_law__250 dL_law__251 dL_law__252 ?_
  refine lj_arg (i := i) (k := 2) C lj_L.rf rfl (by omega) dL_law__253 dL_law__254 dL_law__256 dL_law__257 dL_law__258 ?_
  refine lj_arg (i := i) (k := 3) C lj_L.rf rfl (by omega) dL_law__259 dL_law__260 dL_law__262 dL_law__263 dL_law__264 ?_
  refine lj_arg (i := i) (k := 4) C lj_L.rf rfl (by omega) dL_law__265 dL_law__266 dL_law__268 dL_law__269 dL_law__270 ?_
  refine lj_arg (i := i) (k := 5) C lj_L.rf rfl (by omega) dL_law__271 dL_law__272 dL_law__274 dL_law__275 dL_law__276 ?_
  refine lj_rf (st := [.int x]) (as := [.int (lj_v Z (i + 1)), .int (lj_v Z (i + 2)), .int (lj_v Z (i + 3)), .int (lj_v Z (i + 4)), .int (lj_v Z (i + 5))]) C dL_law__277 lL_114 qX10_feed rfl rfl (fun _ => rfl) (fun _ => rfl) rfl (Nat.le_of_ble_eq_true rfl) (by omega) (by omega) hM (fun ξ hB => ?_)
  exact lj_cmp (i := i) C dL_law__280 (by decide) (lj_wide (by omega) (by omega) (kk ν ξ f (hr ν ξ hA hB).1))
set_option maxRecDepth 20000 in
theorem arm_bog (C : lj_H Z) (hR : REL M m9) (hi : i + 8 ≤ lj_n Z) (hc : cells + 1 ≤ 601024) (hs : slots + 6 ≤ 7293034) (kk : ∀ ν ξ f', REL ν ξ → lj Z 2365 (lj_b Z i) [] ν ξ f' (cells + 1) (slots + 6)) : lj Z 285 (lj_b Z i) [] M m9 f cells slots := by
  obtain ⟨Q, v, B, hv, hw, hm, hr⟩ := aw_bog (a1 := lj_v Z (i + 1)) hR
  refine lj_al (i := i) (k := 1) C lj_L.rf 1 rfl dL_law__285 ?_
  refine lj_arg (i := i) (k := 1) C lj_L.rf rfl (by omega) dL_law__286 dL_law__287 dL_law__289 dL_law__290 dL_law__291 ?_
  refine lj_al (i := i) (k := 3) C lj_L.rf 3 rfl dL_law__292 ?_
  refine lj_wr (n := 3) (as := [.int (lj_v Z (i + 1))]) C dL_law__293 lL_115 kL_bog sL_bog rfl (by decide) (by decide +kernel) rfl hw hc hs rfl (fun r f' ν hq => ?_)
  refine lj_is5 C dL_law__296 ?_
  refine lj_al (i := i) (k := 2) C (lj_L.c lj_L.rf) 2 rfl dL_law__298 ?_
  refine lj_arg (i := i) (k := 1) C (lj_L.c lj_L.rf) rfl (by omega) dL_law__299 dL_law__300 dL_law__302 dL_law__303 dL_law__304 ?_
  refine lj_rf (st := []) (as := [.int (lj_v Z (i + 1))]) C dL_law__305 lL_120 qX10_bog rfl rfl (fun _ => rfl) hv.v rfl (by decide) hc hs hm (fun ξ hB => ?_)
  obtain ⟨h1, h2, h3⟩ := hr f r f' ν ξ hq hB
  rcases hv with ⟨q, -⟩ | ⟨-, x, rfl⟩
  · first | cases q | exact absurd q (by decide)
  · exact lj_tail (i := i) C hc hs h2 h3 dL_law__308 dL_law__310 dL_law__311 dL_law__314 dL_law__316 (by decide) dL_law__321 dL_law__323 (by decide) dL_law__326 dL_law__327 dL_law__328 dL_law__329 dL_law__331 dL_law__332 dL_law__333 (by decide) dL_law__338 (by decide) (kk ν ξ f' h1)
set_option maxRecDepth 20000 in
theorem arm_law (C : lj_H Z) (hR : REL M m9) (hi : i + 8 ≤ lj_n Z) (hc : cells + 1 ≤ 601024) (hs : slots + 6 ≤ 7293034) (kk : ∀ ν ξ f', REL ν ξ → lj Z 2365 (lj_b Z i) [] ν ξ f' (cells + 1) (slots + 6)) : lj Z 341 (lj_b Z i) [] M m9 f cells slots := by
  obtain ⟨Q, v, B, hv, hw, hm, hr⟩ := aw_law (a1 := lj_v Z (i + 1)) hR
  refine lj_al (i := i) (k := 1) C lj_L.rf 1 rfl dL_law__341 ?_
  refine lj_arg (i := i) (k := 1) C lj_L.rf rfl (by omega) dL_law__342 dL_law__343 dL_law__345 dL_law__346 dL_law__347 ?_
  refine lj_al (i := i) (k := 3) C lj_L.rf 3 rfl dL_law__348 ?_
  refine lj_wr (n := 3) (as := [.int (lj_v Z (i + 1))]) C dL_law__349 lL_125 kL_law sL_law rfl (by decide) (by decide +kernel) rfl hw hc hs rfl (fun r f' ν hq => ?_)
  refine lj_is5 C dL_law__352 ?_
  refine lj_al (i := i) (k := 2) C (lj_L.c lj_L.rf) 2 rfl dL_law__354 ?_
  refine lj_arg (i := i) (k := 1) C (lj_L.c lj_L.rf) rfl (by omega) dL_law__355 dL_law__356 dL_law__358 dL_law__359 dL_law__360 ?_
  refine lj_rf (st := []) (as := [.int (lj_v Z (i + 1))]) C dL_law__361 lL_127 qX10_law rfl rfl (fun _ => rfl) hv.v rfl (by decide) hc hs hm (fun ξ hB => ?_)
  obtain ⟨h1, h2, h3⟩ := hr f r f' ν ξ hq hB
  rcases hv with ⟨q, -⟩ | ⟨-, x, rfl⟩
  · first | cases q | exact absurd q (by decide)
  · exact lj_tail (i := i) C hc hs h2 h3 dL_law__364 dL_law__366 dL_law__367 dL_law__370 dL_law__372 (by decide) dL_law__377 dL_law__379 (by decide) dL_law__382 dL_law__383 dL_law__384 dL_law__385 dL_law__387 dL_law__388 dL_law__389 (by decide) dL_law__394 (by decide) (kk ν ξ f' h1)
set_option maxRecDepth 20000 in
theorem arm_work (C : lj_H Z) (hR : REL M m9) (hi : i + 8 ≤ lj_n Z) (hc : cells + 1 ≤ 601024) (hs : slots + 6 ≤ 7293034) (kk : ∀ ν ξ f', REL ν ξ → lj Z 2365 (lj_b Z i) [] ν ξ f' (cells + 1) (slots + 6)) : lj Z 397 (lj_b Z i) [] M m9 f cells slots := by
  obtain ⟨Q, v, B, hv, hw, hm, hr⟩ := aw_work (a1 := lj_v Z (i + 1)) hR
  refine lj_al (i := i) (k := 1) C lj_L.rf 1 rfl dL_law__397 ?_
  refine lj_arg (i := i) (k := 1) C lj_L.rf rfl (by omega) dL_law__398 dL_law__399 dL_law__401 dL_law__402 dL_law__403 ?_
  refine lj_al (i := i) (k := 3) C lj_L.rf 3 rfl dL_law__404 ?_
  refine lj_wr (n := 3) (as := [.int (lj_v Z (i + 1))]) C dL_law__405 lL_128 kL_work sL_work rfl (by decide) (by decide +kernel) rfl hw hc hs rfl (fun r f' ν hq => ?_)
  refine lj_is5 C dL_law__408 ?_
  refine lj_al (i := i) (k := 2) C (lj_L.c lj_L.rf) 2 rfl dL_law__410 ?_
  refine lj_arg (i := i) (k := 1) C (lj_L.c lj_L.rf) rfl (by omega) dL_law__411 dL_law__412 dL_law__414 dL_law__415 dL_law__416 ?_
  refine lj_rf (st := []) (as := [.int (lj_v Z (i + 1))]) C dL_law__417 lL_130 qX10_work rfl rfl (fun _ => rfl) hv.v rfl (by decide) hc hs hm (fun ξ hB => ?_)
  obtain ⟨h1, h2, h3⟩ := hr f r f' ν ξ hq hB
  rcases hv with ⟨q, -⟩ | ⟨-, x, rfl⟩
  · first | cases q | exact absurd q (by decide)
  · exact lj_tail (i := i) C hc hs h2 h3 dL_law__420 dL_law__422 dL_law__423 dL_law__426 dL_law__428 (by decide) dL_law__433 dL_law__435 (by decide) dL_law__438 dL_law__439 dL_law__440 dL_law__441 dL_law__443 dL_law__444 dL_law__445 (by decide) dL_law__450 (by decide) (kk ν ξ f' h1)
set_option maxRecDepth 20000 in
theorem arm_book (C : lj_H Z) (hR : REL M m9) (hi : i + 8 ≤ lj_n Z) (hc : cells + 1 ≤ 601024) (hs : slots + 6 ≤ 7293034) (kk : ∀ ν ξ f', REL ν ξ → lj Z 2365 (lj_b Z i) [] ν ξ f' (cells + 1) (slots + 6)) : lj Z 453 (lj_b Z i) [] M m9 f cells slots := by
  obtain ⟨Q, v, B, hv, hw, hm, hr⟩ := aw_book (a1 := lj_v Z (i + 1)) hR
  refine lj_al (i := i) (k := 1) C lj_L.rf 1 rfl dL_law__453 ?_
  refine lj_arg (i := i) (k := 1) C lj_L.rf rfl (by omega) dL_law__454 dL_law__455 dL_law__457 dL_law__458 dL_law__459 ?_
  refine lj_al (i := i) (k := 3) C lj_L.rf 3 rfl dL_law__460 ?_
  refine lj_wr (n := 3) (as := [.int (lj_v Z (i + 1))]) C dL_law__461 lL_131 kL_book sL_book rfl (by decide) (by decide +kernel) rfl hw hc hs rfl (fun r f' ν hq => ?_)
  refine lj_is5 C dL_law__464 ?_
  refine lj_al (i := i) (k := 2) C (lj_L.c lj_L.rf) 2 rfl dL_law__466 ?_
  refine lj_arg (i := i) (k := 1) C (lj_L.c lj_L.rf) rfl (by omega) dL_law__467 dL_law__468 dL_law__470 dL_law__471 dL_law__472 ?_
  refine lj_rf (st := []) (as := [.int (lj_v Z (i + 1))]) C dL_law__473 lL_133 qX10_book rfl rfl (fun _ => rfl) hv.v rfl (by decide) hc hs hm (fun ξ hB => ?_)
  obtain ⟨h1, h2, h3⟩ := hr f r f' ν ξ hq hB
  rcases hv with ⟨q, -⟩ | ⟨-, x, rfl⟩
  · first | cases q | exact absurd q (by decide)
  · exact lj_tail (i := i) C hc hs h2 h3 dL_law__476 dL_law__478 dL_law__479 dL_law__482 dL_law__484 (by decide) dL_law__489 dL_law__491 (by decide) dL_law__494 dL_law__495 dL_law__496 dL_law__497 dL_law__499 dL_law__500 dL_law__501 (by decide) dL_law__506 (by decide) (kk ν ξ f' h1)
set_option maxRecDepth 20000 in
theorem arm_fault (C : lj_H Z) (hR : REL M m9) (hi : i + 8 ≤ lj_n Z) (hc : cells + 1 ≤ 601024) (hs : slots + 6 ≤ 7293034) (kk : ∀ ν ξ f', REL ν ξ → lj Z 2365 (lj_b Z i) [] ν ξ f' (cells + 1) (slots + 6)) : lj Z 509 (lj_b Z i) [] M m9 f cells slots := by
  obtain ⟨v, A, B, hv, hC, hM, hr⟩ := p_fault  hR
  rcases hv with ⟨q, -⟩ | ⟨-, x, rfl⟩
  · first | (cases q; done) | exact absurd q (by decide)
  refine lj_al (i := i) (k := 1) C lj_L.rf 1 rfl dL_law__509 ?_
  refine lj_cl (st := []) (as := []) C dL_law__510 lL_134 qX9_fault rfl rfl (fun _ => rfl) (fun _ => rfl) rfl (by decide) (by omega) (by omega) hC (fun ν hA => ?_)
  refine lj_al (i := i) (k := 2) C lj_L.rf 2 rfl dL_law__513 ?_
  refine lj_rf (st := [.int x]) (as := []) C dL_law__514 lL_137 qX10_fault rfl rfl (fun _ => rfl) (fun _ => rfl) rfl (Nat.le_of_ble_eq_true rfl) (by omega) (by omega) hM (fun ξ hB => ?_)
  exact lj_cmp (i := i) C dL_law__517 (by decide) (lj_wide (by omega) (by omega) (kk ν ξ f (hr ν ξ hA hB).1))
set_option maxRecDepth 20000 in
theorem arm_undo (C : lj_H Z) (hR : REL M m9) (hi : i + 8 ≤ lj_n Z) (hc : cells + 1 ≤ 601024) (hs : slots + 6 ≤ 7293034) (kk : ∀ ν ξ f', REL ν ξ → lj Z 2365 (lj_b Z i) [] ν ξ f' (cells + 1) (slots + 6)) : lj Z 522 (lj_b Z i) [] M m9 f cells slots := by
  obtain ⟨v, A, B, hv, hC, hM, hr⟩ := p_undo  hR
  rcases hv with ⟨q, -⟩ | ⟨-, x, rfl⟩
  · first | (cases q; done) | exact absurd q (by decide)
  refine lj_al (i := i) (k := 1) C lj_L.rf 1 rfl dL_law__522 ?_
  refine lj_cl (st := []) (as := []) C dL_law__523 lL_138 qX9_undo rfl rfl (fun _ => rfl) (fun _ => rfl) rfl (by decide) (by omega) (by omega) hC (fun ν hA => ?_)
  refine lj_al (i := i) (k := 2) C lj_L.rf 2 rfl dL_law__526 ?_
  refine lj_rf (st := [.int x]) (as := []) C dL_law__527 lL_141 qX10_undo rfl rfl (fun _ => rfl) (fun _ => rfl) rfl (Nat.le_of_ble_eq_true rfl) (by omega) (by omega) hM (fun ξ hB => ?_)
  exact lj_cmp (i := i) C dL_law__530 (by decide) (lj_wide (by omega) (by omega) (kk ν ξ f (hr ν ξ hA hB).1))
set_option maxRecDepth 20000 in
theorem arm_told (C : lj_H Z) (hR : REL M m9) (hi : i + 8 ≤ lj_n Z) (hc : cells + 1 ≤ 601024) (hs : slots + 6 ≤ 7293034) (kk : ∀ ν ξ f', REL ν ξ → lj Z 2365 (lj_b Z i) [] ν ξ f' (cells + 1) (slots + 6)) : lj Z 535 (lj_b Z i) [] M m9 f cells slots := by
  obtain ⟨Q, v, B, hv, hw, hm, hr⟩ := aw_told (a1 := lj_v Z (i + 1)) hR
  refine lj_al (i := i) (k := 1) C lj_L.rf 1 rfl dL_law__535 ?_
  refine lj_arg (i := i) (k := 1) C lj_L.rf rfl (by omega) dL_law__536 dL_law__537 dL_law__539 dL_law__540 dL_law__541 ?_
  refine lj_al (i := i) (k := 3) C lj_L.rf 3 rfl dL_law__542 ?_
  refine lj_wr (n := 3) (as := [.int (lj_v Z (i + 1))]) C dL_law__543 lL_142 kL_told sL_told rfl (by decide) (by decide +kernel) rfl hw hc hs rfl (fun r f' ν hq => ?_)
  refine lj_is5 C dL_law__546 ?_
  refine lj_al (i := i) (k := 2) C (lj_L.c lj_L.rf) 2 rfl dL_law__548 ?_
  refine lj_arg (i := i) (k := 1) C (lj_L.c lj_L.rf) rfl (by omega) dL_law__549 dL_law__550 dL_law__552 dL_law__553 dL_law__554 ?_
  refine lj_rf (st := []) (as := [.int (lj_v Z (i + 1))]) C dL_law__555 lL_144 qX10_told rfl rfl (fun _ => rfl) hv.v rfl (by decide) hc hs hm (fun ξ hB => ?_)
  obtain ⟨h1, h2, h3⟩ := hr f r f' ν ξ hq hB
  rcases hv with ⟨q, -⟩ | ⟨-, x, rfl⟩
  · first | cases q | exact absurd q (by decide)
  · exact lj_tail (i := i) C hc hs h2 h3 dL_law__558 dL_law__560 dL_law__561 dL_law__564 dL_law__566 (by decide) dL_law__571 dL_law__573 (by decide) dL_law__576 dL_law__577 dL_law__578 dL_law__579 dL_law__581 dL_law__582 dL_law__583 (by decide) dL_law__588 (by decide) (kk ν ξ f' h1)
set_option maxRecDepth 20000 in
theorem arm_quarter (C : lj_H Z) (hR : REL M m9) (hi : i + 8 ≤ lj_n Z) (hc : cells + 1 ≤ 601024) (hs : slots + 6 ≤ 7293034) (kk : ∀ ν ξ f', REL ν ξ → lj Z 2365 (lj_b Z i) [] ν ξ f' (cells + 1) (slots + 6)) : lj Z 591 (lj_b Z i) [] M m9 f cells slots := by
  obtain ⟨Q, v, B, hv, hw, hm, hr⟩ := aw_quarter (a1 := lj_v Z (i + 1)) (a2 := lj_v Z (i + 2)) hR
  refine lj_al (i := i) (k := 1) C lj_L.rf 1 rfl dL_law__591 ?_
  refine lj_arg (i := i) (k := 1) C lj_L.rf rfl (by omega) dL_law__592 dL_law__593 dL_law__595 dL_law__596 dL_law__597 ?_
  refine lj_arg (i := i) (k := 2) C lj_L.rf rfl (by omega) dL_law__598 dL_law__599 dL_law__601 dL_law__602 dL_law__603 ?_
  refine lj_al (i := i) (k := 3) C lj_L.rf 3 rfl dL_law__604 ?_
  refine lj_wr (n := 4) (as := [.int (lj_v Z (i + 1)), .int (lj_v Z (i + 2))]) C dL_law__605 lL_145 kL_quarter sL_quarter rfl (by decide) (by decide +kernel) rfl hw hc hs rfl (fun r f' ν hq => ?_)
  refine lj_is5 C dL_law__608 ?_
  refine lj_al (i := i) (k := 2) C (lj_L.c lj_L.rf) 2 rfl dL_law__610 ?_
  refine lj_arg (i := i) (k := 1) C (lj_L.c lj_L.rf) rfl (by omega) dL_law__611 dL_law__612 dL_law__614 dL_law__615 dL_law__616 ?_
  refine lj_arg (i := i) (k := 2) C (lj_L.c lj_L.rf) rfl (by omega) dL_law__617 dL_law__618 dL_law__620 dL_law__621 dL_law__622 ?_
  refine lj_rf (st := []) (as := [.int (lj_v Z (i + 1)), .int (lj_v Z (i + 2))]) C dL_law__623 lL_148 qX10_quarter rfl rfl (fun _ => rfl) hv.v rfl (by decide) hc hs hm (fun ξ hB => ?_)
  obtain ⟨h1, h2, h3⟩ := hr f r f' ν ξ hq hB
  rcases hv with ⟨q, -⟩ | ⟨-, x, rfl⟩
  · first | cases q | exact absurd q (by decide)
  · exact lj_tail (i := i) C hc hs h2 h3 dL_law__626 dL_law__628 dL_law__629 dL_law__632 dL_law__634 (by decide) dL_law__639 dL_law__641 (by decide) dL_law__644 dL_law__645 dL_law__646 dL_law__647 dL_law__649 dL_law__650 dL_law__651 (by decide) dL_law__656 (by decide) (kk ν ξ f' h1)
set_option maxRecDepth 20000 in
theorem arm_oven (C : lj_H Z) (hR : REL M m9) (hi : i + 8 ≤ lj_n Z) (hc : cells + 1 ≤ 601024) (hs : slots + 6 ≤ 7293034) (kk : ∀ ν ξ f', REL ν ξ → lj Z 2365 (lj_b Z i) [] ν ξ f' (cells + 1) (slots + 6)) : lj Z 659 (lj_b Z i) [] M m9 f cells slots := by
  obtain ⟨Q, v, B, hv, hw, hm, hr⟩ := aw_oven (a1 := lj_v Z (i + 1)) (a2 := lj_v Z (i + 2)) hR
  refine lj_al (i := i) (k := 1) C lj_L.rf 1 rfl dL_law__659 ?_
  refine lj_arg (i := i) (k := 1) C lj_L.rf rfl (by omega) dL_law__660 dL_law__661 dL_law__663 dL_law__664 dL_law__665 ?_
  refine lj_arg (i := i) (k := 2) C lj_L.rf rfl (by omega) dL_law__666 dL_law__667 dL_law__669 dL_law__670 dL_law__671 ?_
  refine lj_al (i := i) (k := 3) C lj_L.rf 3 rfl dL_law__672 ?_
  refine lj_wr (n := 4) (as := [.int (lj_v Z (i + 1)), .int (lj_v Z (i + 2))]) C dL_law__673 lL_149 kL_oven sL_oven rfl (by decide) (by decide +kernel) rfl hw hc hs rfl (fun r f' ν hq => ?_)
  refine lj_is5 C dL_law__676 ?_
  refine lj_al (i := i) (k := 2) C (lj_L.c lj_L.rf) 2 rfl dL_law__678 ?_
  refine lj_arg (i := i) (k := 1) C (lj_L.c lj_L.rf) rfl (by omega) dL_law__679 dL_law__680 dL_law__682 dL_law__683 dL_law__684 ?_
  refine lj_arg (i := i) (k := 2) C (lj_L.c lj_L.rf) rfl (by omega) dL_law__685 dL_law__686 dL_law__688 dL_law__689 dL_law__690 ?_
  refine lj_rf (st := []) (as := [.int (lj_v Z (i + 1)), .int (lj_v Z (i + 2))]) C dL_law__691 lL_151 qX10_oven rfl rfl (fun _ => rfl) hv.v rfl (by decide) hc hs hm (fun ξ hB => ?_)
  obtain ⟨h1, h2, h3⟩ := hr f r f' ν ξ hq hB
  rcases hv with ⟨q, -⟩ | ⟨-, x, rfl⟩
  · first | cases q | exact absurd q (by decide)
  · exact lj_tail (i := i) C hc hs h2 h3 dL_law__694 dL_law__696 dL_law__697 dL_law__700 dL_law__702 (by decide) dL_law__707 dL_law__709 (by decide) dL_law__712 dL_law__713 dL_law__714 dL_law__715 dL_law__717 dL_law__718 dL_law__719 (by decide) dL_law__724 (by decide) (kk ν ξ f' h1)
set_option maxRecDepth 20000 in
theorem arm_mooring (C : lj_H Z) (hR : REL M m9) (hi : i + 8 ≤ lj_n Z) (hc : cells + 1 ≤ 601024) (hs : slots + 6 ≤ 7293034) (kk : ∀ ν ξ f', REL ν ξ → lj Z 2365 (lj_b Z i) [] ν ξ f' (cells + 1) (slots + 6)) : lj Z 727 (lj_b Z i) [] M m9 f cells slots := by
  obtain ⟨Q, v, B, hv, hw, hm, hr⟩ := aw_mooring (a1 := lj_v Z (i + 1)) (a2 := lj_v Z (i + 2)) hR
  refine lj_al (i := i) (k := 1) C lj_L.rf 1 rfl dL_law__727 ?_
  refine lj_arg (i := i) (k := 1) C lj_L.rf rfl (by omega) dL_law__728 dL_law__729 dL_law__731 dL_law__732 dL_law__733 ?_
  refine lj_arg (i := i) (k := 2) C lj_L.rf rfl (by omega) dL_law__734 dL_law__735 dL_law__737 dL_law__738 dL_law__739 ?_
  refine lj_al (i := i) (k := 3) C lj_L.rf 3 rfl dL_law__740 ?_
  refine lj_wr (n := 4) (as := [.int (lj_v Z (i + 1)), .int (lj_v Z (i + 2))]) C dL_law__741 lL_152 kL_mooring sL_mooring rfl (by decide) (by decide +kernel) rfl hw hc hs rfl (fun r f' ν hq => ?_)
  refine lj_is5 C dL_law__744 ?_
  refine lj_al (i := i) (k := 2) C (lj_L.c lj_L.rf) 2 rfl dL_law__746 ?_
  refine lj_arg (i := i) (k := 1) C (lj_L.c lj_L.rf) rfl (by omega) dL_law__747 dL_law__748 dL_law__750 dL_law__751 dL_law__752 ?_
  refine lj_arg (i := i) (k := 2) C (lj_L.c lj_L.rf) rfl (by omega) dL_law__753 dL_law__754 dL_law__756 dL_law__757 dL_law__758 ?_
  refine lj_rf (st := []) (as := [.int (lj_v Z (i + 1)), .int (lj_v Z (i + 2))]) C dL_law__759 lL_154 qX10_mooring rfl rfl (fun _ => rfl) hv.v rfl (by decide) hc hs hm (fun ξ hB => ?_)
  obtain ⟨h1, h2, h3⟩ := hr f r f' ν ξ hq hB
  rcases hv with ⟨q, -⟩ | ⟨-, x, rfl⟩
  · first | cases q | exact absurd q (by decide)
  · exact lj_tail (i := i) C hc hs h2 h3 dL_law__762 dL_law__764 dL_law__765 dL_law__768 dL_law__770 (by decide) dL_law__775 dL_law__777 (by decide) dL_law__780 dL_law__781 dL_law__782 dL_law__783 dL_law__785 dL_law__786 dL_law__787 (by decide) dL_law__792 (by decide) (kk ν ξ f' h1)
set_option maxRecDepth 20000 in
theorem arm_reed (C : lj_H Z) (hR : REL M m9) (hi : i + 8 ≤ lj_n Z) (hc : cells + 1 ≤ 601024) (hs : slots + 6 ≤ 7293034) (kk : ∀ ν ξ f', REL ν ξ → lj Z 2365 (lj_b Z i) [] ν ξ f' (cells + 1) (slots + 6)) : lj Z 795 (lj_b Z i) [] M m9 f cells slots := by
  obtain ⟨Q, v, B, hv, hw, hm, hr⟩ := aw_reed (a1 := lj_v Z (i + 1)) (a2 := lj_v Z (i + 2)) hR
  refine lj_al (i := i) (k := 1) C lj_L.rf 1 rfl dL_law__795 ?_
  refine lj_arg (i := i) (k := 1) C lj_L.rf rfl (by omega) dL_law__796 dL_law__797 dL_law__799 dL_law__800 dL_law__801 ?_
  refine lj_arg (i := i) (k := 2) C lj_L.rf rfl (by omega) dL_law__802 dL_law__803 dL_law__805 dL_law__806 dL_law__807 ?_
  refine lj_al (i := i) (k := 3) C lj_L.rf 3 rfl dL_law__808 ?_
  refine lj_wr (n := 4) (as := [.int (lj_v Z (i + 1)), .int (lj_v Z (i + 2))]) C dL_law__809 lL_155 kL_reed sL_reed rfl (by decide) (by decide +kernel) rfl hw hc hs rfl (fun r f' ν hq => ?_)
  refine lj_is5 C dL_law__812 ?_
  refine lj_al (i := i) (k := 2) C (lj_L.c lj_L.rf) 2 rfl dL_law__814 ?_
  refine lj_arg (i := i) (k := 1) C (lj_L.c lj_L.rf) rfl (by omega) dL_law__815 dL_law__816 dL_law__818 dL_law__819 dL_law__820 ?_
  refine lj_arg (i := i) (k := 2) C (lj_L.c lj_L.rf) rfl (by omega) dL_law__821 dL_law__822 dL_law__824 dL_law__825 dL_law__826 ?_
  refine lj_rf (st := []) (as := [.int (lj_v Z (i + 1)), .int (lj_v Z (i + 2))]) C dL_law__827 lL_157 qX10_reed rfl rfl (fun _ => rfl) hv.v rfl (by decide) hc hs hm (fun ξ hB => ?_)
  obtain ⟨h1, h2, h3⟩ := hr f r f' ν ξ hq hB
  rcases hv with ⟨q, -⟩ | ⟨-, x, rfl⟩
  · first | cases q | exact absurd q (by decide)
  · exact lj_tail (i := i) C hc hs h2 h3 dL_law__830 dL_law__832 dL_law__833 dL_law__836 dL_law__838 (by decide) dL_law__843 dL_law__845 (by decide) dL_law__848 dL_law__849 dL_law__850 dL_law__851 dL_law__853 dL_law__854 dL_law__855 (by decide) dL_law__860 (by decide) (kk ν ξ f' h1)
set_option maxRecDepth 20000 in
theorem arm_drift (C : lj_H Z) (hR : REL M m9) (hi : i + 8 ≤ lj_n Z) (hc : cells + 1 ≤ 601024) (hs : slots + 6 ≤ 7293034) (kk : ∀ ν ξ f', REL ν ξ → lj Z 2365 (lj_b Z i) [] ν ξ f' (cells + 1) (slots + 6)) : lj Z 863 (lj_b Z i) [] M m9 f cells slots := by
  obtain ⟨Q, v, B, hv, hw, hm, hr⟩ := aw_drift (a1 := lj_v Z (i + 1)) hR
  refine lj_al (i := i) (k := 1) C lj_L.rf 1 rfl dL_law__863 ?_
  refine lj_arg (i := i) (k := 1) C lj_L.rf rfl (by omega) dL_law__864 dL_law__865 dL_law__867 dL_law__868 dL_law__869 ?_
  refine lj_al (i := i) (k := 3) C lj_L.rf 3 rfl dL_law__870 ?_
  refine lj_wr (n := 3) (as := [.int (lj_v Z (i + 1))]) C dL_law__871 lL_158 kL_drift sL_drift rfl (by decide) (by decide +kernel) rfl hw hc hs rfl (fun r f' ν hq => ?_)
  refine lj_is5 C dL_law__874 ?_
  refine lj_al (i := i) (k := 2) C (lj_L.c lj_L.rf) 2 rfl dL_law__876 ?_
  refine lj_arg (i := i) (k := 1) C (lj_L.c lj_L.rf) rfl (by omega) dL_law__877 dL_law__878 dL_law__880 dL_law__881 dL_law__882 ?_
  refine lj_rf (st := []) (as := [.int (lj_v Z (i + 1))]) C dL_law__883 lL_160 qX10_drift rfl rfl (fun _ => rfl) hv.v rfl (by decide) hc hs hm (fun ξ hB => ?_)
  obtain ⟨h1, h2, h3⟩ := hr f r f' ν ξ hq hB
  rcases hv with ⟨q, -⟩ | ⟨-, x, rfl⟩
  · first | cases q | exact absurd q (by decide)
  · exact lj_tail (i := i) C hc hs h2 h3 dL_law__886 dL_law__888 dL_law__889 dL_law__892 dL_law__894 (by decide) dL_law__899 dL_law__901 (by decide) dL_law__904 dL_law__905 dL_law__906 dL_law__907 dL_law__909 dL_law__910 dL_law__911 (by decide) dL_law__916 (by decide) (kk ν ξ f' h1)
set_option maxRecDepth 20000 in
theorem arm_would (C : lj_H Z) (hR : REL M m9) (hi : i + 8 ≤ lj_n Z) (hc : cells + 1 ≤ 601024) (hs : slots + 6 ≤ 7293034) (kk : ∀ ν ξ f', REL ν ξ → lj Z 2365 (lj_b Z i) [] ν ξ f' (cells + 1) (slots + 6)) : lj Z 919 (lj_b Z i) [] M m9 f cells slots := by
  obtain ⟨Q, v, B, hv, hw, hm, hr⟩ := aw_would (a1 := lj_v Z (i + 1)) (a2 := lj_v Z (i + 2)) (a3 := lj_v Z (i + 3)) (a4 := lj_v Z (i + 4)) (a5 := lj_v Z (i + 5)) (a6 := lj_v Z (i + 6)) (a7 := lj_v Z (i + 7)) hR
  refine lj_al (i := i) (k := 1) C lj_L.rf 1 rfl dL_law__919 ?_
  refine lj_arg (i := i) (k := 1) C lj_L.rf rfl (by omega) dL_law__920 dL_law__921 dL_law__923 dL_law__924 dL_law__925 ?_
  refine lj_arg (i := i) (k := 2) C lj_L.rf rfl (by omega) dL_law__926 dL_law__927 dL_law__929 dL_law__930 dL_law__931 ?_
  refine lj_arg (i := i) (k := 3) C lj_L.rf rfl (by omega) dL_law__932 dL_law__933 dL_law__935 dL_law__936 dL_law__937 ?_
  refine lj_arg (i := i) (k := 4) C lj_L.rf rfl (by omega) dL_law__938 dL_law__939 dL_law__941 dL_law__942 dL_law__943 ?_
  refine lj_arg (i := i) (k := 5) C lj_L.rf rfl (by omega) dL_law__944 dL_law__945 dL_law__947 dL_law__948 dL_law__949 ?_
  refine lj_arg7 (i := i) (k := 6) C lj_L.rf rfl (by omega) dL_law__950 dL_law__951 dL_law__953 dL_law__955 dL_law__956 ?_
  refine lj_arg7 (i := i) (k := 7) C lj_L.rf rfl (by omega) dL_law__957 dL_law__958 dL_law__960 dL_law__962 dL_law__963 ?_
  refine lj_al (i := i) (k := 3) C lj_L.rf 3 rfl dL_law__964 ?_
  refine lj_wr (n := 9) (as := [.int (lj_v Z (i + 1)), .int (lj_v Z (i + 2)), .int (lj_v Z (i + 3)), .int (lj_v Z (i + 4)), .int (lj_v Z (i + 5)), .int (lj_v Z (i + 6)), .int (lj_v Z (i + 7))]) C dL_law__965 lL_161 kL_would sL_would rfl (by decide) (by decide +kernel) rfl hw hc hs rfl (fun r f' ν hq => ?_)
  refine lj_is5 C dL_law__968 ?_
  refine lj_al (i := i) (k := 2) C (lj_L.c lj_L.rf) 2 rfl dL_law__970 ?_
  refine lj_arg (i := i) (k := 1) C (lj_L.c lj_L.rf) rfl (by omega) dL_law__971 dL_law__972 dL_law__974 dL_law__975 dL_law__976 ?_
  refine lj_arg (i := i) (k := 2) C (lj_L.c lj_L.rf) rfl (by omega) dL_law__977 dL_law__978 dL_law__980 dL_law__981 dL_law__982 ?_
  refine lj_arg (i := i) (k := 3) C (lj_L.c lj_L.rf) rfl (by omega) dL_law__983 dL_law__984 dL_law__986 dL_law__987 dL_law__988 ?_
  refine lj_arg (i := i) (k := 4) C (lj_L.c lj_L.rf) rfl (by omega) dL_law__989 dL_law__990 dL_law__992 dL_law__993 dL_law__994 ?_
  refine lj_arg (i := i) (k := 5) C (lj_L.c lj_L.rf) rfl (by omega) dL_law__995 dL_law__996 dL_law__998 dL_law__999 dL_law__1000 ?_
  refine lj_arg7 (i := i) (k := 6) C (lj_L.c lj_L.rf) rfl (by omega) dL_law__1001 dL_law__1002 dL_law__1004 dL_law__1006 dL_law__1007 ?_
  refine lj_arg7 (i := i) (k := 7) C (lj_L.c lj_L.rf) rfl (by omega) dL_law__1008 dL_law__1009 dL_law__1011 dL_law__1013 dL_law__1014 ?_
  refine lj_rf (st := []) (as := [.int (lj_v Z (i + 1)), .int (lj_v Z (i + 2)), .int (lj_v Z (i + 3)), .int (lj_v Z (i + 4)), .int (lj_v Z (i + 5)), .int (lj_v Z (i + 6)), .int (lj_v Z (i + 7))]) C dL_law__1015 lL_164 qX10_would rfl rfl (fun _ => rfl) hv.v rfl (by decide) hc hs hm (fun ξ hB => ?_)
  obtain ⟨h1, h2, h3⟩ := hr f r f' ν ξ hq hB
  rcases hv with ⟨q, -⟩ | ⟨-, x, rfl⟩
  · first | cases q | exact absurd q (by decide)
  · exact lj_tail (i := i) C hc hs h2 h3 dL_law__1018 dL_law__1020 dL_law__1021 dL_law__1024 dL_law__1026 (by decide) dL_law__1031 dL_law__1033 (by decide) dL_law__1036 dL_law__1037 dL_law__1038 dL_law__1039 dL_law__1041 dL_law__1042 dL_law__1043 (by decide) dL_law__1048 (by decide) (kk ν ξ f' h1)
set_option maxRecDepth 20000 in
theorem arm_ahead (C : lj_H Z) (hR : REL M m9) (hi : i + 8 ≤ lj_n Z) (hc : cells + 1 ≤ 601024) (hs : slots + 6 ≤ 7293034) (kk : ∀ ν ξ f', REL ν ξ → lj Z 2365 (lj_b Z i) [] ν ξ f' (cells + 1) (slots + 6)) : lj Z 1051 (lj_b Z i) [] M m9 f cells slots := by
  obtain ⟨Q, v, B, hv, hw, hm, hr⟩ := aw_ahead (a1 := lj_v Z (i + 1)) (a2 := lj_v Z (i + 2)) hR
  refine lj_al (i := i) (k := 1) C lj_L.rf 1 rfl dL_law__1051 ?_
  refine lj_arg (i := i) (k := 1) C lj_L.rf rfl (by omega) dL_law__1052 dL_law__1053 dL_law__1055 dL_law__1056 dL_law__1057 ?_
  refine lj_arg (i := i) (k := 2) C lj_L.rf rfl (by omega) dL_law__1058 dL_law__1059 dL_law__1061 dL_law__1062 dL_law__1063 ?_
  refine lj_al (i := i) (k := 3) C lj_L.rf 3 rfl dL_law__1064 ?_
  refine lj_wr (n := 4) (as := [.int (lj_v Z (i + 1)), .int (lj_v Z (i + 2))]) C dL_law__1065 lL_165 kL_ahead sL_ahead rfl (by decide) (by decide +kernel) rfl hw hc hs rfl (fun r f' ν hq => ?_)
  refine lj_is5 C dL_law__1068 ?_
  refine lj_al (i := i) (k := 2) C (lj_L.c lj_L.rf) 2 rfl dL_law__1070 ?_
  refine lj_arg (i := i) (k := 1) C (lj_L.c lj_L.rf) rfl (by omega) dL_law__1071 dL_law__1072 dL_law__1074 dL_law__1075 dL_law__1076 ?_
  refine lj_arg (i := i) (k := 2) C (lj_L.c lj_L.rf) rfl (by omega) dL_law__1077 dL_law__1078 dL_law__1080 dL_law__1081 dL_law__1082 ?_
  refine lj_rf (st := []) (as := [.int (lj_v Z (i + 1)), .int (lj_v Z (i + 2))]) C dL_law__1083 lL_167 qX10_ahead rfl rfl (fun _ => rfl) hv.v rfl (by decide) hc hs hm (fun ξ hB => ?_)
  obtain ⟨h1, h2, h3⟩ := hr f r f' ν ξ hq hB
  rcases hv with ⟨q, -⟩ | ⟨-, x, rfl⟩
  · first | cases q | exact absurd q (by decide)
  · exact lj_tail (i := i) C hc hs h2 h3 dL_law__1086 dL_law__1088 dL_law__1089 dL_law__1092 dL_law__1094 (by decide) dL_law__1099 dL_law__1101 (by decide) dL_law__1104 dL_law__1105 dL_law__1106 dL_law__1107 dL_law__1109 dL_law__1110 dL_law__1111 (by decide) dL_law__1116 (by decide) (kk ν ξ f' h1)
set_option maxRecDepth 20000 in
theorem arm_pilot (C : lj_H Z) (hR : REL M m9) (hi : i + 8 ≤ lj_n Z) (hc : cells + 1 ≤ 601024) (hs : slots + 6 ≤ 7293034) (kk : ∀ ν ξ f', REL ν ξ → lj Z 2365 (lj_b Z i) [] ν ξ f' (cells + 1) (slots + 6)) : lj Z 1119 (lj_b Z i) [] M m9 f cells slots := by
  obtain ⟨Q, v, B, hv, hw, hm, hr⟩ := aw_pilot (a1 := lj_v Z (i + 1)) (a2 := lj_v Z (i + 2)) hR
  refine lj_al (i := i) (k := 1) C lj_L.rf 1 rfl dL_law__1119 ?_
  refine lj_arg (i := i) (k := 1) C lj_L.rf rfl (by omega) dL_law__1120 dL_law__1121 dL_law__1123 dL_law__1124 dL_law__1125 ?_
  refine lj_arg (i := i) (k := 2) C lj_L.rf rfl (by omega) dL_law__1126 dL_law__1127 dL_law__1129 dL_law__1130 dL_law__1131 ?_
  refine lj_al (i := i) (k := 3) C lj_L.rf 3 rfl dL_law__1132 ?_
  refine lj_wr (n := 4) (as := [.int (lj_v Z (i + 1)), .int (lj_v Z (i + 2))]) C dL_law__1133 lL_168 kL_pilot sL_pilot rfl (by decide) (by decide +kernel) rfl hw hc hs rfl (fun r f' ν hq => ?_)
  refine lj_is5 C dL_law__1136 ?_
  refine lj_al (i := i) (k := 2) C (lj_L.c lj_L.rf) 2 rfl dL_law__1138 ?_
  refine lj_arg (i := i) (k := 1) C (lj_L.c lj_L.rf) rfl (by omega) dL_law__1139 dL_law__1140 dL_law__1142 dL_law__1143 dL_law__1144 ?_
  refine lj_arg (i := i) (k := 2) C (lj_L.c lj_L.rf) rfl (by omega) dL_law__1145 dL_law__1146 dL_law__1148 dL_law__1149 dL_law__1150 ?_
  refine lj_rf (st := []) (as := [.int (lj_v Z (i + 1)), .int (lj_v Z (i + 2))]) C dL_law__1151 lL_170 qX10_pilot rfl rfl (fun _ => rfl) hv.v rfl (by decide) hc hs hm (fun ξ hB => ?_)
  obtain ⟨h1, h2, h3⟩ := hr f r f' ν ξ hq hB
  rcases hv with ⟨q, -⟩ | ⟨-, x, rfl⟩
  · first | cases q | exact absurd q (by decide)
  · exact lj_tail (i := i) C hc hs h2 h3 dL_law__1154 dL_law__1156 dL_law__1157 dL_law__1160 dL_law__1162 (by decide) dL_law__1167 dL_law__1169 (by decide) dL_law__1172 dL_law__1173 dL_law__1174 dL_law__1175 dL_law__1177 dL_law__1178 dL_law__1179 (by decide) dL_law__1184 (by decide) (kk ν ξ f' h1)
set_option maxRecDepth 20000 in
theorem arm_trim (C : lj_H Z) (hR : REL M m9) (hi : i + 8 ≤ lj_n Z) (hc : cells + 1 ≤ 601024) (hs : slots + 6 ≤ 7293034) (kk : ∀ ν ξ f', REL ν ξ → lj Z 2365 (lj_b Z i) [] ν ξ f' (cells + 1) (slots + 6)) : lj Z 1187 (lj_b Z i) [] M m9 f cells slots := by
  obtain ⟨Q, v, B, hv, hw, hm, hr⟩ := aw_trim (a1 := lj_v Z (i + 1)) hR
  refine lj_al (i := i) (k := 1) C lj_L.rf 1 rfl dL_law__1187 ?_
  refine lj_arg (i := i) (k := 1) C lj_L.rf rfl (by omega) dL_law__1188 dL_law__1189 dL_law__1191 dL_law__1192 dL_law__1193 ?_
  refine lj_al (i := i) (k := 3) C lj_L.rf 3 rfl dL_law__1194 ?_
  refine lj_wr (n := 3) (as := [.int (lj_v Z (i + 1))]) C dL_law__1195 lL_171 kL_trim sL_trim rfl (by decide) (by decide +kernel) rfl hw hc hs rfl (fun r f' ν hq => ?_)
  refine lj_is5 C dL_law__1198 ?_
  refine lj_al (i := i) (k := 2) C (lj_L.c lj_L.rf) 2 rfl dL_law__1200 ?_
  refine lj_arg (i := i) (k := 1) C (lj_L.c lj_L.rf) rfl (by omega) dL_law__1201 dL_law__1202 dL_law__1204 dL_law__1205 dL_law__1206 ?_
  refine lj_rf (st := []) (as := [.int (lj_v Z (i + 1))]) C dL_law__1207 lL_173 qX10_trim rfl rfl (fun _ => rfl) hv.v rfl (by decide) hc hs hm (fun ξ hB => ?_)
  obtain ⟨h1, h2, h3⟩ := hr f r f' ν ξ hq hB
  rcases hv with ⟨q, -⟩ | ⟨-, x, rfl⟩
  · first | cases q | exact absurd q (by decide)
  · exact lj_tail (i := i) C hc hs h2 h3 dL_law__1210 dL_law__1212 dL_law__1213 dL_law__1216 dL_law__1218 (by decide) dL_law__1223 dL_law__1225 (by decide) dL_law__1228 dL_law__1229 dL_law__1230 dL_law__1231 dL_law__1233 dL_law__1234 dL_law__1235 (by decide) dL_law__1240 (by decide) (kk ν ξ f' h1)
set_option maxRecDepth 20000 in
theorem arm_steps (C : lj_H Z) (hR : REL M m9) (hi : i + 8 ≤ lj_n Z) (hc : cells + 1 ≤ 601024) (hs : slots + 6 ≤ 7293034) (kk : ∀ ν ξ f', REL ν ξ → lj Z 2365 (lj_b Z i) [] ν ξ f' (cells + 1) (slots + 6)) : lj Z 1243 (lj_b Z i) [] M m9 f cells slots := by
  obtain ⟨Q, v, B, hv, hw, hm, hr⟩ := aw_steps (a1 := lj_v Z (i + 1)) hR
  refine lj_al (i := i) (k := 1) C lj_L.rf 1 rfl dL_law__1243 ?_
  refine lj_arg (i := i) (k := 1) C lj_L.rf rfl (by omega) dL_law__1244 dL_law__1245 dL_law__1247 dL_law__1248 dL_law__1249 ?_
  refine lj_al (i := i) (k := 3) C lj_L.rf 3 rfl dL_law__1250 ?_
  refine lj_wr (n := 3) (as := [.int (lj_v Z (i + 1))]) C dL_law__1251 lL_174 kL_steps sL_steps rfl (by decide) (by decide +kernel) rfl hw hc hs rfl (fun r f' ν hq => ?_)
  refine lj_is5 C dL_law__1254 ?_
  refine lj_al (i := i) (k := 2) C (lj_L.c lj_L.rf) 2 rfl dL_law__1256 ?_
  refine lj_arg (i := i) (k := 1) C (lj_L.c lj_L.rf) rfl (by omega) dL_law__1257 dL_law__1258 dL_law__1260 dL_law__1261 dL_law__1262 ?_
  refine lj_rf (st := []) (as := [.int (lj_v Z (i + 1))]) C dL_law__1263 lL_176 qX10_steps rfl rfl (fun _ => rfl) hv.v rfl (by decide) hc hs hm (fun ξ hB => ?_)
  obtain ⟨h1, h2, h3⟩ := hr f r f' ν ξ hq hB
  rcases hv with ⟨q, -⟩ | ⟨-, x, rfl⟩
  · first | cases q | exact absurd q (by decide)
  · exact lj_tail (i := i) C hc hs h2 h3 dL_law__1266 dL_law__1268 dL_law__1269 dL_law__1272 dL_law__1274 (by decide) dL_law__1279 dL_law__1281 (by decide) dL_law__1284 dL_law__1285 dL_law__1286 dL_law__1287 dL_law__1289 dL_law__1290 dL_law__1291 (by decide) dL_law__1296 (by decide) (kk ν ξ f' h1)
set_option maxRecDepth 20000 in
theorem arm_fits (C : lj_H Z) (hR : REL M m9) (hi : i + 8 ≤ lj_n Z) (hc : cells + 1 ≤ 601024) (hs : slots + 6 ≤ 7293034) (kk : ∀ ν ξ f', REL ν ξ → lj Z 2365 (lj_b Z i) [] ν ξ f' (cells + 1) (slots + 6)) : lj Z 1299 (lj_b Z i) [] M m9 f cells slots := by
  obtain ⟨Q, v, B, hv, hw, hm, hr⟩ := aw_fits (a1 := lj_v Z (i + 1)) hR
  refine lj_al (i := i) (k := 1) C lj_L.rf 1 rfl dL_law__1299 ?_
  refine lj_arg (i := i) (k := 1) C lj_L.rf rfl (by omega) dL_law__1300 dL_law__1301 dL_law__1303 dL_law__1304 dL_law__1305 ?_
  refine lj_al (i := i) (k := 3) C lj_L.rf 3 rfl dL_law__1306 ?_
  refine lj_wr (n := 3) (as := [.int (lj_v Z (i + 1))]) C dL_law__1307 lL_177 kL_fits sL_fits rfl (by decide) (by decide +kernel) rfl hw hc hs rfl (fun r f' ν hq => ?_)
  refine lj_is5 C dL_law__1310 ?_
  refine lj_al (i := i) (k := 2) C (lj_L.c lj_L.rf) 2 rfl dL_law__1312 ?_
  refine lj_arg (i := i) (k := 1) C (lj_L.c lj_L.rf) rfl (by omega) dL_law__1313 dL_law__1314 dL_law__1316 dL_law__1317 dL_law__1318 ?_
  refine lj_rf (st := []) (as := [.int (lj_v Z (i + 1))]) C dL_law__1319 lL_179 qX10_fits rfl rfl (fun _ => rfl) hv.v rfl (by decide) hc hs hm (fun ξ hB => ?_)
  obtain ⟨h1, h2, h3⟩ := hr f r f' ν ξ hq hB
  rcases hv with ⟨q, -⟩ | ⟨-, x, rfl⟩
  · first | cases q | exact absurd q (by decide)
  · exact lj_tail (i := i) C hc hs h2 h3 dL_law__1322 dL_law__1324 dL_law__1325 dL_law__1328 dL_law__1330 (by decide) dL_law__1335 dL_law__1337 (by decide) dL_law__1340 dL_law__1341 dL_law__1342 dL_law__1343 dL_law__1345 dL_law__1346 dL_law__1347 (by decide) dL_law__1352 (by decide) (kk ν ξ f' h1)
set_option maxRecDepth 20000 in
theorem arm_look (C : lj_H Z) (hR : REL M m9) (hi : i + 8 ≤ lj_n Z) (hc : cells + 1 ≤ 601024) (hs : slots + 6 ≤ 7293034) (kk : ∀ ν ξ f', REL ν ξ → lj Z 2365 (lj_b Z i) [] ν ξ f' (cells + 1) (slots + 6)) : lj Z 1355 (lj_b Z i) [] M m9 f cells slots := by
  obtain ⟨Q, v, B, hv, hw, hm, hr⟩ := aw_look (a1 := lj_v Z (i + 1)) hR
  refine lj_al (i := i) (k := 1) C lj_L.rf 1 rfl dL_law__1355 ?_
  refine lj_arg (i := i) (k := 1) C lj_L.rf rfl (by omega) dL_law__1356 dL_law__1357 dL_law__1359 dL_law__1360 dL_law__1361 ?_
  refine lj_al (i := i) (k := 3) C lj_L.rf 3 rfl dL_law__1362 ?_
  refine lj_wr (n := 3) (as := [.int (lj_v Z (i + 1))]) C dL_law__1363 lL_180 kL_look sL_look rfl (by decide) (by decide +kernel) rfl hw hc hs rfl (fun r f' ν hq => ?_)
  refine lj_is5 C dL_law__1366 ?_
  refine lj_al (i := i) (k := 2) C (lj_L.c lj_L.rf) 2 rfl dL_law__1368 ?_
  refine lj_arg (i := i) (k := 1) C (lj_L.c lj_L.rf) rfl (by omega) dL_law__1369 dL_law__1370 dL_law__1372 dL_law__1373 dL_law__1374 ?_
  refine lj_rf (st := []) (as := [.int (lj_v Z (i + 1))]) C dL_law__1375 lL_182 qX10_look rfl rfl (fun _ => rfl) hv.v rfl (by decide) hc hs hm (fun ξ hB => ?_)
  obtain ⟨h1, h2, h3⟩ := hr f r f' ν ξ hq hB
  rcases hv with ⟨q, -⟩ | ⟨-, x, rfl⟩
  · first | cases q | exact absurd q (by decide)
  · exact lj_tail (i := i) C hc hs h2 h3 dL_law__1378 dL_law__1380 dL_law__1381 dL_law__1384 dL_law__1386 (by decide) dL_law__1391 dL_law__1393 (by decide) dL_law__1396 dL_law__1397 dL_law__1398 dL_law__1399 dL_law__1401 dL_law__1402 dL_law__1403 (by decide) dL_law__1408 (by decide) (kk ν ξ f' h1)
set_option maxRecDepth 20000 in
theorem arm_gusts (C : lj_H Z) (hR : REL M m9) (hi : i + 8 ≤ lj_n Z) (hc : cells + 1 ≤ 601024) (hs : slots + 6 ≤ 7293034) (kk : ∀ ν ξ f', REL ν ξ → lj Z 2365 (lj_b Z i) [] ν ξ f' (cells + 1) (slots + 6)) : lj Z 1411 (lj_b Z i) [] M m9 f cells slots := by
  obtain ⟨Q, v, B, hv, hw, hm, hr⟩ := aw_gusts (a1 := lj_v Z (i + 1)) (a2 := lj_v Z (i + 2)) (a3 := lj_v Z (i + 3)) (a4 := lj_v Z (i + 4)) hR
  refine lj_al (i := i) (k := 1) C lj_L.rf 1 rfl dL_law__1411 ?_
  refine lj_arg (i := i) (k := 1) C lj_L.rf rfl (by omega) dL_law__1412 dL_law__1413 dL_law__1415 dL_law__1416 dL_law__1417 ?_
  refine lj_arg (i := i) (k := 2) C lj_L.rf rfl (by omega) dL_law__1418 dL_law__1419 dL_law__1421 dL_law__1422 dL_law__1423 ?_
  refine lj_arg (i := i) (k := 3) C lj_L.rf rfl (by omega) dL_law__1424 dL_law__1425 dL_law__1427 dL_law__1428 dL_law__1429 ?_
  refine lj_arg (i := i) (k := 4) C lj_L.rf rfl (by omega) dL_law__1430 dL_law__1431 dL_law__1433 dL_law__1434 dL_law__1435 ?_
  refine lj_al (i := i) (k := 3) C lj_L.rf 3 rfl dL_law__1436 ?_
  refine lj_wr (n := 6) (as := [.int (lj_v Z (i + 1)), .int (lj_v Z (i + 2)), .int (lj_v Z (i + 3)), .int (lj_v Z (i + 4))]) C dL_law__1437 lL_183 kL_gusts sL_gusts rfl (by decide) (by decide +kernel) rfl hw hc hs rfl (fun r f' ν hq => ?_)
  refine lj_is5 C dL_law__1440 ?_
  refine lj_al (i := i) (k := 2) C (lj_L.c lj_L.rf) 2 rfl dL_law__1442 ?_
  refine lj_arg (i := i) (k := 1) C (lj_L.c lj_L.rf) rfl (by omega) dL_law__1443 dL_law__1444 dL_law__1446 dL_law__1447 dL_law__1448 ?_
  refine lj_arg (i := i) (k := 2) C (lj_L.c lj_L.rf) rfl (by omega) dL_law__1449 dL_law__1450 dL_law__1452 dL_law__1453 dL_law__1454 ?_
  refine lj_arg (i := i) (k := 3) C (lj_L.c lj_L.rf) rfl (by omega) dL_law__1455 dL_law__1456 dL_law__1458 dL_law__1459 dL_law__1460 ?_
  refine lj_arg (i := i) (k := 4) C (lj_L.c lj_L.rf) rfl (by omega) dL_law__1461 dL_law__1462 dL_law__1464 dL_law__1465 dL_law__1466 ?_
  refine lj_rf (st := []) (as := [.int (lj_v Z (i + 1)), .int (lj_v Z (i + 2)), .int (lj_v Z (i + 3)), .int (lj_v Z (i + 4))]) C dL_law__1467 lL_186 qX10_gusts rfl rfl (fun _ => rfl) hv.v rfl (by decide) hc hs hm (fun ξ hB => ?_)
  obtain ⟨h1, h2, h3⟩ := hr f r f' ν ξ hq hB
  rcases hv with ⟨-, x, rfl⟩ | ⟨q, -⟩
  · exact lj_tailL (i := i) C hc hs h2 h3 dL_law__1470 dL_law__1472 dL_law__1473 dL_law__1476 dL_law__1478 (by decide) dL_law__1483 dL_law__1485 (by decide) dL_law__1488 dL_law__1489 dL_law__1490 dL_law__1491 dL_law__1493 dL_law__1494 (by decide) dL_law__1499 (by decide) (kk ν ξ f' h1)
  · first | cases q | exact absurd q (by decide)
set_option maxRecDepth 20000 in
theorem arm_bakers (C : lj_H Z) (hR : REL M m9) (hi : i + 8 ≤ lj_n Z) (hc : cells + 1 ≤ 601024) (hs : slots + 6 ≤ 7293034) (kk : ∀ ν ξ f', REL ν ξ → lj Z 2365 (lj_b Z i) [] ν ξ f' (cells + 1) (slots + 6)) : lj Z 1502 (lj_b Z i) [] M m9 f cells slots := by
  obtain ⟨Q, v, B, hv, hw, hm, hr⟩ := aw_bakers (a1 := lj_v Z (i + 1)) (a2 := lj_v Z (i + 2)) (a3 := lj_v Z (i + 3)) hR
  refine lj_al (i := i) (k := 1) C lj_L.rf 1 rfl dL_law__1502 ?_
  refine lj_arg (i := i) (k := 1) C lj_L.rf rfl (by omega) dL_law__1503 dL_law__1504 dL_law__1506 dL_law__1507 dL_law__1508 ?_
  refine lj_arg (i := i) (k := 2) C lj_L.rf rfl (by omega) dL_law__1509 dL_law__1510 dL_law__1512 dL_law__1513 dL_law__1514 ?_
  refine lj_arg (i := i) (k := 3) C lj_L.rf rfl (by omega) dL_law__1515 dL_law__1516 dL_law__1518 dL_law__1519 dL_law__1520 ?_
  refine lj_al (i := i) (k := 3) C lj_L.rf 3 rfl dL_law__1521 ?_
  refine lj_wr (n := 5) (as := [.int (lj_v Z (i + 1)), .int (lj_v Z (i + 2)), .int (lj_v Z (i + 3))]) C dL_law__1522 lL_187 kL_bakers sL_bakers rfl (by decide) (by decide +kernel) rfl hw hc hs rfl (fun r f' ν hq => ?_)
  refine lj_is5 C dL_law__1525 ?_
  refine lj_al (i := i) (k := 2) C (lj_L.c lj_L.rf) 2 rfl dL_law__1527 ?_
  refine lj_arg (i := i) (k := 1) C (lj_L.c lj_L.rf) rfl (by omega) dL_law__1528 dL_law__1529 dL_law__1531 dL_law__1532 dL_law__1533 ?_
  refine lj_arg (i := i) (k := 2) C (lj_L.c lj_L.rf) rfl (by omega) dL_law__1534 dL_law__1535 dL_law__1537 dL_law__1538 dL_law__1539 ?_
  refine lj_arg (i := i) (k := 3) C (lj_L.c lj_L.rf) rfl (by omega) dL_law__1540 dL_law__1541 dL_law__1543 dL_law__1544 dL_law__1545 ?_
  refine lj_rf (st := []) (as := [.int (lj_v Z (i + 1)), .int (lj_v Z (i + 2)), .int (lj_v Z (i + 3))]) C dL_law__1546 lL_190 qX10_bakers rfl rfl (fun _ => rfl) hv.v rfl (by decide) hc hs hm (fun ξ hB => ?_)
  obtain ⟨h1, h2, h3⟩ := hr f r f' ν ξ hq hB
  rcases hv with ⟨q, -⟩ | ⟨-, x, rfl⟩
  · first | cases q | exact absurd q (by decide)
  · exact lj_tail (i := i) C hc hs h2 h3 dL_law__1549 dL_law__1551 dL_law__1552 dL_law__1555 dL_law__1557 (by decide) dL_law__1562 dL_law__1564 (by decide) dL_law__1567 dL_law__1568 dL_law__1569 dL_law__1570 dL_law__1572 dL_law__1573 dL_law__1574 (by decide) dL_law__1579 (by decide) (kk ν ξ f' h1)
set_option maxRecDepth 20000 in
theorem arm_sacks (C : lj_H Z) (hR : REL M m9) (hi : i + 8 ≤ lj_n Z) (hc : cells + 1 ≤ 601024) (hs : slots + 6 ≤ 7293034) (kk : ∀ ν ξ f', REL ν ξ → lj Z 2365 (lj_b Z i) [] ν ξ f' (cells + 1) (slots + 6)) : lj Z 1582 (lj_b Z i) [] M m9 f cells slots := by
  obtain ⟨Q, v, B, hv, hw, hm, hr⟩ := aw_sacks (a1 := lj_v Z (i + 1)) (a2 := lj_v Z (i + 2)) (a3 := lj_v Z (i + 3)) hR
  refine lj_al (i := i) (k := 1) C lj_L.rf 1 rfl dL_law__1582 ?_
  refine lj_arg (i := i) (k := 1) C lj_L.rf rfl (by omega) dL_law__1583 dL_law__1584 dL_law__1586 dL_law__1587 dL_law__1588 ?_
  refine lj_arg (i := i) (k := 2) C lj_L.rf rfl (by omega) dL_law__1589 dL_law__1590 dL_law__1592 dL_law__1593 dL_law__1594 ?_
  refine lj_arg (i := i) (k := 3) C lj_L.rf rfl (by omega) dL_law__1595 dL_law__1596 dL_law__1598 dL_law__1599 dL_law__1600 ?_
  refine lj_al (i := i) (k := 3) C lj_L.rf 3 rfl dL_law__1601 ?_
  refine lj_wr (n := 5) (as := [.int (lj_v Z (i + 1)), .int (lj_v Z (i + 2)), .int (lj_v Z (i + 3))]) C dL_law__1602 lL_191 kL_sacks sL_sacks rfl (by decide) (by decide +kernel) rfl hw hc hs rfl (fun r f' ν hq => ?_)
  refine lj_is5 C dL_law__1605 ?_
  refine lj_al (i := i) (k := 2) C (lj_L.c lj_L.rf) 2 rfl dL_law__1607 ?_
  refine lj_arg (i := i) (k := 1) C (lj_L.c lj_L.rf) rfl (by omega) dL_law__1608 dL_law__1609 dL_law__1611 dL_law__1612 dL_law__1613 ?_
  refine lj_arg (i := i) (k := 2) C (lj_L.c lj_L.rf) rfl (by omega) dL_law__1614 dL_law__1615 dL_law__1617 dL_law__1618 dL_law__1619 ?_
  refine lj_arg (i := i) (k := 3) C (lj_L.c lj_L.rf) rfl (by omega) dL_law__1620 dL_law__1621 dL_law__1623 dL_law__1624 dL_law__1625 ?_
  refine lj_rf (st := []) (as := [.int (lj_v Z (i + 1)), .int (lj_v Z (i + 2)), .int (lj_v Z (i + 3))]) C dL_law__1626 lL_193 qX10_sacks rfl rfl (fun _ => rfl) hv.v rfl (by decide) hc hs hm (fun ξ hB => ?_)
  obtain ⟨h1, h2, h3⟩ := hr f r f' ν ξ hq hB
  rcases hv with ⟨q, -⟩ | ⟨-, x, rfl⟩
  · first | cases q | exact absurd q (by decide)
  · exact lj_tail (i := i) C hc hs h2 h3 dL_law__1629 dL_law__1631 dL_law__1632 dL_law__1635 dL_law__1637 (by decide) dL_law__1642 dL_law__1644 (by decide) dL_law__1647 dL_law__1648 dL_law__1649 dL_law__1650 dL_law__1652 dL_law__1653 dL_law__1654 (by decide) dL_law__1659 (by decide) (kk ν ξ f' h1)
set_option maxRecDepth 20000 in
theorem arm_leagues (C : lj_H Z) (hR : REL M m9) (hi : i + 8 ≤ lj_n Z) (hc : cells + 1 ≤ 601024) (hs : slots + 6 ≤ 7293034) (kk : ∀ ν ξ f', REL ν ξ → lj Z 2365 (lj_b Z i) [] ν ξ f' (cells + 1) (slots + 6)) : lj Z 1662 (lj_b Z i) [] M m9 f cells slots := by
  obtain ⟨v, A, B, hv, hC, hM, hr⟩ := p_leagues  hR
  rcases hv with ⟨q, -⟩ | ⟨-, x, rfl⟩
  · first | (cases q; done) | exact absurd q (by decide)
  refine lj_al (i := i) (k := 1) C lj_L.rf 1 rfl dL_law__1662 ?_
  refine lj_cl (st := []) (as := []) C dL_law__1663 lL_194 qX9_leagues rfl rfl (fun _ => rfl) (fun _ => rfl) rfl (by decide) (by omega) (by omega) hC (fun ν hA => ?_)
  refine lj_al (i := i) (k := 2) C lj_L.rf 2 rfl dL_law__1666 ?_
  refine lj_rf (st := [.int x]) (as := []) C dL_law__1667 lL_197 qX10_leagues rfl rfl (fun _ => rfl) (fun _ => rfl) rfl (Nat.le_of_ble_eq_true rfl) (by omega) (by omega) hM (fun ξ hB => ?_)
  exact lj_cmp (i := i) C dL_law__1670 (by decide) (lj_wide (by omega) (by omega) (kk ν ξ f (hr ν ξ hA hB).1))
set_option maxRecDepth 20000 in
theorem arm_key (C : lj_H Z) (hR : REL M m9) (hi : i + 8 ≤ lj_n Z) (hc : cells + 1 ≤ 601024) (hs : slots + 6 ≤ 7293034) (kk : ∀ ν ξ f', REL ν ξ → lj Z 2365 (lj_b Z i) [] ν ξ f' (cells + 1) (slots + 6)) : lj Z 1675 (lj_b Z i) [] M m9 f cells slots := by
  obtain ⟨Q, v, B, hv, hw, hm, hr⟩ := aw_key (a1 := lj_v Z (i + 1)) hR
  refine lj_al (i := i) (k := 1) C lj_L.rf 1 rfl dL_law__1675 ?_
  refine lj_arg (i := i) (k := 1) C lj_L.rf rfl (by omega) dL_law__1676 dL_law__1677 dL_law__1679 dL_law__1680 dL_law__1681 ?_
  refine lj_al (i := i) (k := 3) C lj_L.rf 3 rfl dL_law__1682 ?_
  refine lj_wr (n := 3) (as := [.int (lj_v Z (i + 1))]) C dL_law__1683 lL_198 kL_key sL_key rfl (by decide) (by decide +kernel) rfl hw hc hs rfl (fun r f' ν hq => ?_)
  refine lj_is5 C dL_law__1686 ?_
  refine lj_al (i := i) (k := 2) C (lj_L.c lj_L.rf) 2 rfl dL_law__1688 ?_
  refine lj_arg (i := i) (k := 1) C (lj_L.c lj_L.rf) rfl (by omega) dL_law__1689 dL_law__1690 dL_law__1692 dL_law__1693 dL_law__1694 ?_
  refine lj_rf (st := []) (as := [.int (lj_v Z (i + 1))]) C dL_law__1695 lL_200 qX10_key rfl rfl (fun _ => rfl) hv.v rfl (by decide) hc hs hm (fun ξ hB => ?_)
  obtain ⟨h1, h2, h3⟩ := hr f r f' ν ξ hq hB
  rcases hv with ⟨q, -⟩ | ⟨-, x, rfl⟩
  · first | cases q | exact absurd q (by decide)
  · exact lj_tail (i := i) C hc hs h2 h3 dL_law__1698 dL_law__1700 dL_law__1701 dL_law__1704 dL_law__1706 (by decide) dL_law__1711 dL_law__1713 (by decide) dL_law__1716 dL_law__1717 dL_law__1718 dL_law__1719 dL_law__1721 dL_law__1722 dL_law__1723 (by decide) dL_law__1728 (by decide) (kk ν ξ f' h1)
set_option maxRecDepth 20000 in
theorem arm_nearest (C : lj_H Z) (hR : REL M m9) (hi : i + 8 ≤ lj_n Z) (hc : cells + 1 ≤ 601024) (hs : slots + 6 ≤ 7293034) (kk : ∀ ν ξ f', REL ν ξ → lj Z 2365 (lj_b Z i) [] ν ξ f' (cells + 1) (slots + 6)) : lj Z 1731 (lj_b Z i) [] M m9 f cells slots := by
  obtain ⟨Q, v, B, hv, hw, hm, hr⟩ := aw_nearest (a1 := lj_v Z (i + 1)) hR
  refine lj_al (i := i) (k := 1) C lj_L.rf 1 rfl dL_law__1731 ?_
  refine lj_arg (i := i) (k := 1) C lj_L.rf rfl (by omega) dL_law__1732 dL_law__1733 dL_law__1735 dL_law__1736 dL_law__1737 ?_
  refine lj_al (i := i) (k := 3) C lj_L.rf 3 rfl dL_law__1738 ?_
  refine lj_wr (n := 3) (as := [.int (lj_v Z (i + 1))]) C dL_law__1739 lL_201 kL_nearest sL_nearest rfl (by decide) (by decide +kernel) rfl hw hc hs rfl (fun r f' ν hq => ?_)
  refine lj_is5 C dL_law__1742 ?_
  refine lj_al (i := i) (k := 2) C (lj_L.c lj_L.rf) 2 rfl dL_law__1744 ?_
  refine lj_arg (i := i) (k := 1) C (lj_L.c lj_L.rf) rfl (by omega) dL_law__1745 dL_law__1746 dL_law__1748 dL_law__1749 dL_law__1750 ?_
  refine lj_rf (st := []) (as := [.int (lj_v Z (i + 1))]) C dL_law__1751 lL_203 qX10_nearest rfl rfl (fun _ => rfl) hv.v rfl (by decide) hc hs hm (fun ξ hB => ?_)
  obtain ⟨h1, h2, h3⟩ := hr f r f' ν ξ hq hB
  rcases hv with ⟨q, -⟩ | ⟨-, x, rfl⟩
  · first | cases q | exact absurd q (by decide)
  · exact lj_tail (i := i) C hc hs h2 h3 dL_law__1754 dL_law__1756 dL_law__1757 dL_law__1760 dL_law__1762 (by decide) dL_law__1767 dL_law__1769 (by decide) dL_law__1772 dL_law__1773 dL_law__1774 dL_law__1775 dL_law__1777 dL_law__1778 dL_law__1779 (by decide) dL_law__1784 (by decide) (kk ν ξ f' h1)
set_option maxRecDepth 20000 in
theorem arm_sweetest (C : lj_H Z) (hR : REL M m9) (hi : i + 8 ≤ lj_n Z) (hc : cells + 1 ≤ 601024) (hs : slots + 6 ≤ 7293034) (kk : ∀ ν ξ f', REL ν ξ → lj Z 2365 (lj_b Z i) [] ν ξ f' (cells + 1) (slots + 6)) : lj Z 1787 (lj_b Z i) [] M m9 f cells slots := by
  obtain ⟨Q, v, B, hv, hw, hm, hr⟩ := aw_sweetest (a1 := lj_v Z (i + 1)) hR
  refine lj_al (i := i) (k := 1) C lj_L.rf 1 rfl dL_law__1787 ?_
  refine lj_arg (i := i) (k := 1) C lj_L.rf rfl (by omega) dL_law__1788 dL_law__1789 dL_law__1791 dL_law__1792 dL_law__1793 ?_
  refine lj_al (i := i) (k := 3) C lj_L.rf 3 rfl dL_law__1794 ?_
  refine lj_wr (n := 3) (as := [.int (lj_v Z (i + 1))]) C dL_law__1795 lL_204 kL_sweetest sL_sweetest rfl (by decide) (by decide +kernel) rfl hw hc hs rfl (fun r f' ν hq => ?_)
  refine lj_is5 C dL_law__1798 ?_
  refine lj_al (i := i) (k := 2) C (lj_L.c lj_L.rf) 2 rfl dL_law__1800 ?_
  refine lj_arg (i := i) (k := 1) C (lj_L.c lj_L.rf) rfl (by omega) dL_law__1801 dL_law__1802 dL_law__1804 dL_law__1805 dL_law__1806 ?_
  refine lj_rf (st := []) (as := [.int (lj_v Z (i + 1))]) C dL_law__1807 lL_206 qX10_sweetest rfl rfl (fun _ => rfl) hv.v rfl (by decide) hc hs hm (fun ξ hB => ?_)
  obtain ⟨h1, h2, h3⟩ := hr f r f' ν ξ hq hB
  rcases hv with ⟨q, -⟩ | ⟨-, x, rfl⟩
  · first | cases q | exact absurd q (by decide)
  · exact lj_tail (i := i) C hc hs h2 h3 dL_law__1810 dL_law__1812 dL_law__1813 dL_law__1816 dL_law__1818 (by decide) dL_law__1823 dL_law__1825 (by decide) dL_law__1828 dL_law__1829 dL_law__1830 dL_law__1831 dL_law__1833 dL_law__1834 dL_law__1835 (by decide) dL_law__1840 (by decide) (kk ν ξ f' h1)
set_option maxRecDepth 20000 in
theorem arm_heaviest (C : lj_H Z) (hR : REL M m9) (hi : i + 8 ≤ lj_n Z) (hc : cells + 1 ≤ 601024) (hs : slots + 6 ≤ 7293034) (kk : ∀ ν ξ f', REL ν ξ → lj Z 2365 (lj_b Z i) [] ν ξ f' (cells + 1) (slots + 6)) : lj Z 1843 (lj_b Z i) [] M m9 f cells slots := by
  obtain ⟨Q, v, B, hv, hw, hm, hr⟩ := aw_heaviest (a1 := lj_v Z (i + 1)) hR
  refine lj_al (i := i) (k := 1) C lj_L.rf 1 rfl dL_law__1843 ?_
  refine lj_arg (i := i) (k := 1) C lj_L.rf rfl (by omega) dL_law__1844 dL_law__1845 dL_law__1847 dL_law__1848 dL_law__1849 ?_
  refine lj_al (i := i) (k := 3) C lj_L.rf 3 rfl dL_law__1850 ?_
  refine lj_wr (n := 3) (as := [.int (lj_v Z (i + 1))]) C dL_law__1851 lL_207 kL_heaviest sL_heaviest rfl (by decide) (by decide +kernel) rfl hw hc hs rfl (fun r f' ν hq => ?_)
  refine lj_is5 C dL_law__1854 ?_
  refine lj_al (i := i) (k := 2) C (lj_L.c lj_L.rf) 2 rfl dL_law__1856 ?_
  refine lj_arg (i := i) (k := 1) C (lj_L.c lj_L.rf) rfl (by omega) dL_law__1857 dL_law__1858 dL_law__1860 dL_law__1861 dL_law__1862 ?_
  refine lj_rf (st := []) (as := [.int (lj_v Z (i + 1))]) C dL_law__1863 lL_209 qX10_heaviest rfl rfl (fun _ => rfl) hv.v rfl (by decide) hc hs hm (fun ξ hB => ?_)
  obtain ⟨h1, h2, h3⟩ := hr f r f' ν ξ hq hB
  rcases hv with ⟨q, -⟩ | ⟨-, x, rfl⟩
  · first | cases q | exact absurd q (by decide)
  · exact lj_tail (i := i) C hc hs h2 h3 dL_law__1866 dL_law__1868 dL_law__1869 dL_law__1872 dL_law__1874 (by decide) dL_law__1879 dL_law__1881 (by decide) dL_law__1884 dL_law__1885 dL_law__1886 dL_law__1887 dL_law__1889 dL_law__1890 dL_law__1891 (by decide) dL_law__1896 (by decide) (kk ν ξ f' h1)
set_option maxRecDepth 20000 in
theorem arm_side (C : lj_H Z) (hR : REL M m9) (hi : i + 8 ≤ lj_n Z) (hc : cells + 1 ≤ 601024) (hs : slots + 6 ≤ 7293034) (kk : ∀ ν ξ f', REL ν ξ → lj Z 2365 (lj_b Z i) [] ν ξ f' (cells + 1) (slots + 6)) : lj Z 1899 (lj_b Z i) [] M m9 f cells slots := by
  obtain ⟨Q, v, B, hv, hw, hm, hr⟩ := aw_side (a1 := lj_v Z (i + 1)) hR
  refine lj_al (i := i) (k := 1) C lj_L.rf 1 rfl dL_law__1899 ?_
  refine lj_arg (i := i) (k := 1) C lj_L.rf rfl (by omega) dL_law__1900 dL_law__1901 dL_law__1903 dL_law__1904 dL_law__1905 ?_
  refine lj_al (i := i) (k := 3) C lj_L.rf 3 rfl dL_law__1906 ?_
  refine lj_wr (n := 3) (as := [.int (lj_v Z (i + 1))]) C dL_law__1907 lL_210 kL_side sL_side rfl (by decide) (by decide +kernel) rfl hw hc hs rfl (fun r f' ν hq => ?_)
  refine lj_is5 C dL_law__1910 ?_
  refine lj_al (i := i) (k := 2) C (lj_L.c lj_L.rf) 2 rfl dL_law__1912 ?_
  refine lj_arg (i := i) (k := 1) C (lj_L.c lj_L.rf) rfl (by omega) dL_law__1913 dL_law__1914 dL_law__1916 dL_law__1917 dL_law__1918 ?_
  refine lj_rf (st := []) (as := [.int (lj_v Z (i + 1))]) C dL_law__1919 lL_212 qX10_side rfl rfl (fun _ => rfl) hv.v rfl (by decide) hc hs hm (fun ξ hB => ?_)
  obtain ⟨h1, h2, h3⟩ := hr f r f' ν ξ hq hB
  rcases hv with ⟨q, -⟩ | ⟨-, x, rfl⟩
  · first | cases q | exact absurd q (by decide)
  · exact lj_tail (i := i) C hc hs h2 h3 dL_law__1922 dL_law__1924 dL_law__1925 dL_law__1928 dL_law__1930 (by decide) dL_law__1935 dL_law__1937 (by decide) dL_law__1940 dL_law__1941 dL_law__1942 dL_law__1943 dL_law__1945 dL_law__1946 dL_law__1947 (by decide) dL_law__1952 (by decide) (kk ν ξ f' h1)
set_option maxRecDepth 20000 in
theorem arm_room (C : lj_H Z) (hR : REL M m9) (hi : i + 8 ≤ lj_n Z) (hc : cells + 1 ≤ 601024) (hs : slots + 6 ≤ 7293034) (kk : ∀ ν ξ f', REL ν ξ → lj Z 2365 (lj_b Z i) [] ν ξ f' (cells + 1) (slots + 6)) : lj Z 1955 (lj_b Z i) [] M m9 f cells slots := by
  obtain ⟨Q, v, B, hv, hw, hm, hr⟩ := aw_room (a1 := lj_v Z (i + 1)) hR
  refine lj_al (i := i) (k := 1) C lj_L.rf 1 rfl dL_law__1955 ?_
  refine lj_arg (i := i) (k := 1) C lj_L.rf rfl (by omega) dL_law__1956 dL_law__1957 dL_law__1959 dL_law__1960 dL_law__1961 ?_
  refine lj_al (i := i) (k := 3) C lj_L.rf 3 rfl dL_law__1962 ?_
  refine lj_wr (n := 3) (as := [.int (lj_v Z (i + 1))]) C dL_law__1963 lL_213 kL_room sL_room rfl (by decide) (by decide +kernel) rfl hw hc hs rfl (fun r f' ν hq => ?_)
  refine lj_is5 C dL_law__1966 ?_
  refine lj_al (i := i) (k := 2) C (lj_L.c lj_L.rf) 2 rfl dL_law__1968 ?_
  refine lj_arg (i := i) (k := 1) C (lj_L.c lj_L.rf) rfl (by omega) dL_law__1969 dL_law__1970 dL_law__1972 dL_law__1973 dL_law__1974 ?_
  refine lj_rf (st := []) (as := [.int (lj_v Z (i + 1))]) C dL_law__1975 lL_215 qX10_room rfl rfl (fun _ => rfl) hv.v rfl (by decide) hc hs hm (fun ξ hB => ?_)
  obtain ⟨h1, h2, h3⟩ := hr f r f' ν ξ hq hB
  rcases hv with ⟨q, -⟩ | ⟨-, x, rfl⟩
  · first | cases q | exact absurd q (by decide)
  · exact lj_tail (i := i) C hc hs h2 h3 dL_law__1978 dL_law__1980 dL_law__1981 dL_law__1984 dL_law__1986 (by decide) dL_law__1991 dL_law__1993 (by decide) dL_law__1996 dL_law__1997 dL_law__1998 dL_law__1999 dL_law__2001 dL_law__2002 dL_law__2003 (by decide) dL_law__2008 (by decide) (kk ν ξ f' h1)
set_option maxRecDepth 20000 in
theorem arm_wreck (C : lj_H Z) (hR : REL M m9) (hi : i + 8 ≤ lj_n Z) (hc : cells + 1 ≤ 601024) (hs : slots + 6 ≤ 7293034) (kk : ∀ ν ξ f', REL ν ξ → lj Z 2365 (lj_b Z i) [] ν ξ f' (cells + 1) (slots + 6)) : lj Z 2011 (lj_b Z i) [] M m9 f cells slots := by
  obtain ⟨v, A, B, hv, hC, hM, hr⟩ := p_wreck  hR
  rcases hv with ⟨q, -⟩ | ⟨-, x, rfl⟩
  · first | (cases q; done) | exact absurd q (by decide)
  refine lj_al (i := i) (k := 1) C lj_L.rf 1 rfl dL_law__2011 ?_
  refine lj_cl (st := []) (as := []) C dL_law__2012 lL_216 qX9_wreck rfl rfl (fun _ => rfl) (fun _ => rfl) rfl (by decide) (by omega) (by omega) hC (fun ν hA => ?_)
  refine lj_al (i := i) (k := 2) C lj_L.rf 2 rfl dL_law__2015 ?_
  refine lj_rf (st := [.int x]) (as := []) C dL_law__2016 lL_219 qX10_wreck rfl rfl (fun _ => rfl) (fun _ => rfl) rfl (Nat.le_of_ble_eq_true rfl) (by omega) (by omega) hM (fun ξ hB => ?_)
  exact lj_cmp (i := i) C dL_law__2019 (by decide) (lj_wide (by omega) (by omega) (kk ν ξ f (hr ν ξ hA hB).1))
set_option maxRecDepth 20000 in
theorem arm_cool (C : lj_H Z) (hR : REL M m9) (hi : i + 8 ≤ lj_n Z) (hc : cells + 1 ≤ 601024) (hs : slots + 6 ≤ 7293034) (kk : ∀ ν ξ f', REL ν ξ → lj Z 2365 (lj_b Z i) [] ν ξ f' (cells + 1) (slots + 6)) : lj Z 2024 (lj_b Z i) [] M m9 f cells slots := by
  obtain ⟨Q, v, B, hv, hw, hm, hr⟩ := aw_cool (a1 := lj_v Z (i + 1)) hR
  refine lj_al (i := i) (k := 1) C lj_L.rf 1 rfl dL_law__2024 ?_
  refine lj_arg (i := i) (k := 1) C lj_L.rf rfl (by omega) dL_law__2025 dL_law__2026 dL_law__2028 dL_law__2029 dL_law__2030 ?_
  refine lj_al (i := i) (k := 3) C lj_L.rf 3 rfl dL_law__2031 ?_
  refine lj_wr (n := 3) (as := [.int (lj_v Z (i + 1))]) C dL_law__2032 lL_220 kL_cool sL_cool rfl (by decide) (by decide +kernel) rfl hw hc hs rfl (fun r f' ν hq => ?_)
  refine lj_is5 C dL_law__2035 ?_
  refine lj_al (i := i) (k := 2) C (lj_L.c lj_L.rf) 2 rfl dL_law__2037 ?_
  refine lj_arg (i := i) (k := 1) C (lj_L.c lj_L.rf) rfl (by omega) dL_law__2038 dL_law__2039 dL_law__2041 dL_law__2042 dL_law__2043 ?_
  refine lj_rf (st := []) (as := [.int (lj_v Z (i + 1))]) C dL_law__2044 lL_222 qX10_cool rfl rfl (fun _ => rfl) hv.v rfl (by decide) hc hs hm (fun ξ hB => ?_)
  obtain ⟨h1, h2, h3⟩ := hr f r f' ν ξ hq hB
  rcases hv with ⟨q, -⟩ | ⟨-, x, rfl⟩
  · first | cases q | exact absurd q (by decide)
  · exact lj_tail (i := i) C hc hs h2 h3 dL_law__2047 dL_law__2049 dL_law__2050 dL_law__2053 dL_law__2055 (by decide) dL_law__2060 dL_law__2062 (by decide) dL_law__2065 dL_law__2066 dL_law__2067 dL_law__2068 dL_law__2070 dL_law__2071 dL_law__2072 (by decide) dL_law__2077 (by decide) (kk ν ξ f' h1)
set_option maxRecDepth 20000 in
theorem arm_safe (C : lj_H Z) (hR : REL M m9) (hi : i + 8 ≤ lj_n Z) (hc : cells + 1 ≤ 601024) (hs : slots + 6 ≤ 7293034) (kk : ∀ ν ξ f', REL ν ξ → lj Z 2365 (lj_b Z i) [] ν ξ f' (cells + 1) (slots + 6)) : lj Z 2080 (lj_b Z i) [] M m9 f cells slots := by
  obtain ⟨v, A, B, hv, hC, hM, hr⟩ := p_safe  hR
  rcases hv with ⟨q, -⟩ | ⟨-, x, rfl⟩
  · first | (cases q; done) | exact absurd q (by decide)
  refine lj_al (i := i) (k := 1) C lj_L.rf 1 rfl dL_law__2080 ?_
  refine lj_cl (st := []) (as := []) C dL_law__2081 lL_223 qX9_safe rfl rfl (fun _ => rfl) (fun _ => rfl) rfl (by decide) (by omega) (by omega) hC (fun ν hA => ?_)
  refine lj_al (i := i) (k := 2) C lj_L.rf 2 rfl dL_law__2084 ?_
  refine lj_rf (st := [.int x]) (as := []) C dL_law__2085 lL_226 qX10_safe rfl rfl (fun _ => rfl) (fun _ => rfl) rfl (Nat.le_of_ble_eq_true rfl) (by omega) (by omega) hM (fun ξ hB => ?_)
  exact lj_cmp (i := i) C dL_law__2088 (by decide) (lj_wide (by omega) (by omega) (kk ν ξ f (hr ν ξ hA hB).1))
set_option maxRecDepth 20000 in
theorem arm_season (C : lj_H Z) (hR : REL M m9) (hi : i + 8 ≤ lj_n Z) (hc : cells + 1 ≤ 601024) (hs : slots + 6 ≤ 7293034) (kk : ∀ ν ξ f', REL ν ξ → lj Z 2365 (lj_b Z i) [] ν ξ f' (cells + 1) (slots + 6)) : lj Z 2093 (lj_b Z i) [] M m9 f cells slots := by
  obtain ⟨Q, v, B, hv, hw, hm, hr⟩ := aw_season (a1 := lj_v Z (i + 1)) (a2 := lj_v Z (i + 2)) (a3 := lj_v Z (i + 3)) (a4 := lj_v Z (i + 4)) hR
  refine lj_al (i := i) (k := 1) C lj_L.rf 1 rfl dL_law__2093 ?_
  refine lj_arg (i := i) (k := 1) C lj_L.rf rfl (by omega) dL_law__2094 dL_law__2095 dL_law__2097 dL_law__2098 dL_law__2099 ?_
  refine lj_arg (i := i) (k := 2) C lj_L.rf rfl (by omega) dL_law__2100 dL_law__2101 dL_law__2103 dL_law__2104 dL_law__2105 ?_
  refine lj_arg (i := i) (k := 3) C lj_L.rf rfl (by omega) dL_law__2106 dL_law__2107 dL_law__2109 dL_law__2110 dL_law__2111 ?_
  refine lj_arg (i := i) (k := 4) C lj_L.rf rfl (by omega) dL_law__2112 dL_law__2113 dL_law__2115 dL_law__2116 dL_law__2117 ?_
  refine lj_al (i := i) (k := 3) C lj_L.rf 3 rfl dL_law__2118 ?_
  refine lj_wr (n := 6) (as := [.int (lj_v Z (i + 1)), .int (lj_v Z (i + 2)), .int (lj_v Z (i + 3)), .int (lj_v Z (i + 4))]) C dL_law__2119 lL_227 kL_season sL_season rfl (by decide) (by decide +kernel) rfl hw hc hs rfl (fun r f' ν hq => ?_)
  refine lj_is5 C dL_law__2122 ?_
  refine lj_al (i := i) (k := 2) C (lj_L.c lj_L.rf) 2 rfl dL_law__2124 ?_
  refine lj_arg (i := i) (k := 1) C (lj_L.c lj_L.rf) rfl (by omega) dL_law__2125 dL_law__2126 dL_law__2128 dL_law__2129 dL_law__2130 ?_
  refine lj_arg (i := i) (k := 2) C (lj_L.c lj_L.rf) rfl (by omega) dL_law__2131 dL_law__2132 dL_law__2134 dL_law__2135 dL_law__2136 ?_
  refine lj_arg (i := i) (k := 3) C (lj_L.c lj_L.rf) rfl (by omega) dL_law__2137 dL_law__2138 dL_law__2140 dL_law__2141 dL_law__2142 ?_
  refine lj_arg (i := i) (k := 4) C (lj_L.c lj_L.rf) rfl (by omega) dL_law__2143 dL_law__2144 dL_law__2146 dL_law__2147 dL_law__2148 ?_
  refine lj_rf (st := []) (as := [.int (lj_v Z (i + 1)), .int (lj_v Z (i + 2)), .int (lj_v Z (i + 3)), .int (lj_v Z (i + 4))]) C dL_law__2149 lL_229 qX10_season rfl rfl (fun _ => rfl) hv.v rfl (by decide) hc hs hm (fun ξ hB => ?_)
  obtain ⟨h1, h2, h3⟩ := hr f r f' ν ξ hq hB
  rcases hv with ⟨q, -⟩ | ⟨-, x, rfl⟩
  · first | cases q | exact absurd q (by decide)
  · exact lj_tail (i := i) C hc hs h2 h3 dL_law__2152 dL_law__2154 dL_law__2155 dL_law__2158 dL_law__2160 (by decide) dL_law__2165 dL_law__2167 (by decide) dL_law__2170 dL_law__2171 dL_law__2172 dL_law__2173 dL_law__2175 dL_law__2176 dL_law__2177 (by decide) dL_law__2182 (by decide) (kk ν ξ f' h1)
set_option maxRecDepth 20000 in
theorem arm_span (C : lj_H Z) (hR : REL M m9) (hi : i + 8 ≤ lj_n Z) (hc : cells + 1 ≤ 601024) (hs : slots + 6 ≤ 7293034) (kk : ∀ ν ξ f', REL ν ξ → lj Z 2365 (lj_b Z i) [] ν ξ f' (cells + 1) (slots + 6)) : lj Z 2185 (lj_b Z i) [] M m9 f cells slots := by
  obtain ⟨Q, v, B, hv, hw, hm, hr⟩ := aw_span (a1 := lj_v Z (i + 1)) (a2 := lj_v Z (i + 2)) (a3 := lj_v Z (i + 3)) (a4 := lj_v Z (i + 4)) (a5 := lj_v Z (i + 5)) hR
  refine lj_al (i := i) (k := 1) C lj_L.rf 1 rfl dL_law__2185 ?_
  refine lj_arg (i := i) (k := 1) C lj_L.rf rfl (by omega) dL_law__2186 dL_law__2187 dL_law__2189 dL_law__2190 dL_law__2191 ?_
  refine lj_arg (i := i) (k := 2) C lj_L.rf rfl (by omega) dL_law__2192 dL_law__2193 dL_law__2195 dL_law__2196 dL_law__2197 ?_
  refine lj_arg (i := i) (k := 3) C lj_L.rf rfl (by omega) dL_law__2198 dL_law__2199 dL_law__2201 dL_law__2202 dL_law__2203 ?_
  refine lj_arg (i := i) (k := 4) C lj_L.rf rfl (by omega) dL_law__2204 dL_law__2205 dL_law__2207 dL_law__2208 dL_law__2209 ?_
  refine lj_arg (i := i) (k := 5) C lj_L.rf rfl (by omega) dL_law__2210 dL_law__2211 dL_law__2213 dL_law__2214 dL_law__2215 ?_
  refine lj_al (i := i) (k := 3) C lj_L.rf 3 rfl dL_law__2216 ?_
  refine lj_wr (n := 7) (as := [.int (lj_v Z (i + 1)), .int (lj_v Z (i + 2)), .int (lj_v Z (i + 3)), .int (lj_v Z (i + 4)), .int (lj_v Z (i + 5))]) C dL_law__2217 lL_230 kL_span sL_span rfl (by decide) (by decide +kernel) rfl hw hc hs rfl (fun r f' ν hq => ?_)
  refine lj_is5 C dL_law__2220 ?_
  refine lj_al (i := i) (k := 2) C (lj_L.c lj_L.rf) 2 rfl dL_law__2222 ?_
  refine lj_arg (i := i) (k := 1) C (lj_L.c lj_L.rf) rfl (by omega) dL_law__2223 dL_law__2224 dL_law__2226 dL_law__2227 dL_law__2228 ?_
  refine lj_arg (i := i) (k := 2) C (lj_L.c lj_L.rf) rfl (by omega) dL_law__2229 dL_law__2230 dL_law__2232 dL_law__2233 dL_law__2234 ?_
  refine lj_arg (i := i) (k := 3) C (lj_L.c lj_L.rf) rfl (by omega) dL_law__2235 dL_law__2236 dL_law__2238 dL_law__2239 dL_law__2240 ?_
  refine lj_arg (i := i) (k := 4) C (lj_L.c lj_L.rf) rfl (by omega) dL_law__2241 dL_law__2242 dL_law__2244 dL_law__2245 dL_law__2246 ?_
  refine lj_arg (i := i) (k := 5) C (lj_L.c lj_L.rf) rfl (by omega) dL_law__2247 dL_law__2248 dL_law__2250 dL_law__2251 dL_law__2252 ?_
  refine lj_rf (st := []) (as := [.int (lj_v Z (i + 1)), .int (lj_v Z (i + 2)), .int (lj_v Z (i + 3)), .int (lj_v Z (i + 4)), .int (lj_v Z (i + 5))]) C dL_law__2253 lL_233 qX10_span rfl rfl (fun _ => rfl) hv.v rfl (by decide) hc hs hm (fun ξ hB => ?_)
  obtain ⟨h1, h2, h3⟩ := hr f r f' ν ξ hq hB
  rcases hv with ⟨q, -⟩ | ⟨-, x, rfl⟩
  · first | cases q | exact absurd q (by decide)
  · exact lj_tail (i := i) C hc hs h2 h3 dL_law__2256 dL_law__2258 dL_law__2259 dL_law__2262 dL_law__2264 (by decide) dL_law__2269 dL_law__2271 (by decide) dL_law__2274 dL_law__2275 dL_law__2276 dL_law__2277 dL_law__2279 dL_law__2280 dL_law__2281 (by decide) dL_law__2286 (by decide) (kk ν ξ f' h1)
set_option maxRecDepth 20000 in
theorem arm_image (C : lj_H Z) (hR : REL M m9) (hi : i + 8 ≤ lj_n Z) (hc : cells + 1 ≤ 601024) (hs : slots + 6 ≤ 7293034) (kk : ∀ ν ξ f', REL ν ξ → lj Z 2365 (lj_b Z i) [] ν ξ f' (cells + 1) (slots + 6)) : lj Z 2289 (lj_b Z i) [] M m9 f cells slots := by
  obtain ⟨v, A, B, hv, hC, hM, hr⟩ := p_image  hR
  rcases hv with ⟨q, -⟩ | ⟨-, x, rfl⟩
  · first | (cases q; done) | exact absurd q (by decide)
  refine lj_al (i := i) (k := 1) C lj_L.rf 1 rfl dL_law__2289 ?_
  refine lj_cl (st := []) (as := []) C dL_law__2290 lL_234 qX9_image rfl rfl (fun _ => rfl) (fun _ => rfl) rfl (by decide) (by omega) (by omega) hC (fun ν hA => ?_)
  refine lj_al (i := i) (k := 2) C lj_L.rf 2 rfl dL_law__2293 ?_
  refine lj_rf (st := [.int x]) (as := []) C dL_law__2294 lL_237 qX10_image rfl rfl (fun _ => rfl) (fun _ => rfl) rfl (Nat.le_of_ble_eq_true rfl) (by omega) (by omega) hM (fun ξ hB => ?_)
  exact lj_cmp (i := i) C dL_law__2297 (by decide) (lj_wide (by omega) (by omega) (kk ν ξ f (hr ν ξ hA hB).1))
set_option maxRecDepth 20000 in
theorem arm_restore (C : lj_H Z) (hR : REL M m9) (hi : i + 8 ≤ lj_n Z) (hc : cells + 1 ≤ 601024) (hs : slots + 6 ≤ 7293034) (kk : ∀ ν ξ f', REL ν ξ → lj Z 2365 (lj_b Z i) [] ν ξ f' (cells + 1) (slots + 6)) : lj Z 2302 (lj_b Z i) [] M m9 f cells slots := by
  obtain ⟨v, A, B, hv, hC, hM, hr⟩ := p_restore  hR
  rcases hv with ⟨q, -⟩ | ⟨-, x, rfl⟩
  · first | (cases q; done) | exact absurd q (by decide)
  refine lj_al (i := i) (k := 1) C lj_L.rf 1 rfl dL_law__2302 ?_
  refine lj_cl (st := []) (as := []) C dL_law__2303 lL_238 qX9_restore rfl rfl (fun _ => rfl) (fun _ => rfl) rfl (by decide) (by omega) (by omega) hC (fun ν hA => ?_)
  refine lj_al (i := i) (k := 2) C lj_L.rf 2 rfl dL_law__2306 ?_
  refine lj_rf (st := [.int x]) (as := []) C dL_law__2307 lL_241 qX10_restore rfl rfl (fun _ => rfl) (fun _ => rfl) rfl (Nat.le_of_ble_eq_true rfl) (by omega) (by omega) hM (fun ξ hB => ?_)
  exact lj_cmp (i := i) C dL_law__2310 (by decide) (lj_wide (by omega) (by omega) (kk ν ξ f (hr ν ξ hA hB).1))
set_option maxRecDepth 20000 in
theorem arm_status (C : lj_H Z) (hR : REL M m9) (hi : i + 8 ≤ lj_n Z) (hc : cells + 1 ≤ 601024) (hs : slots + 6 ≤ 7293034) (kk : ∀ ν ξ f', REL ν ξ → lj Z 2365 (lj_b Z i) [] ν ξ f' (cells + 1) (slots + 6)) : lj Z 2315 (lj_b Z i) [] M m9 f cells slots := by
  obtain ⟨v, A, B, hv, hC, hM, hr⟩ := p_status (w := lj_v Z (i + 1)) hR
  rcases hv with ⟨q, -⟩ | ⟨-, x, rfl⟩
  · first | (cases q; done) | exact absurd q (by decide)
  refine lj_al (i := i) (k := 1) C lj_L.rf 1 rfl dL_law__2315 ?_
  refine lj_arg (i := i) (k := 1) C lj_L.rf rfl (by omega) dL_law__2316 dL_law__2317 dL_law__2319 dL_law__2320 dL_law__2321 ?_
  refine lj_cl (st := []) (as := [.int (lj_v Z (i + 1))]) C dL_law__2322 lL_242 qX9_status rfl rfl (fun _ => rfl) (fun _ => rfl) rfl (by decide) (by omega) (by omega) hC (fun ν hA => ?_)
  refine lj_al (i := i) (k := 2) C lj_L.rf 2 rfl dL_law__2325 ?_
  refine lj_arg (i := i) (k := 1) C lj_L.rf rfl (by omega) dL_law__2326 dL_law__2327 dL_law__2329 dL_law__2330 dL_law__2331 ?_
  refine lj_rf (st := [.int x]) (as := [.int (lj_v Z (i + 1))]) C dL_law__2332 lL_245 qX10_status rfl rfl (fun _ => rfl) (fun _ => rfl) rfl (Nat.le_of_ble_eq_true rfl) (by omega) (by omega) hM (fun ξ hB => ?_)
  exact lj_cmp (i := i) C dL_law__2335 (by decide) (lj_wide (by omega) (by omega) (kk ν ξ f (hr ν ξ hA hB).1))
set_option maxRecDepth 20000 in
theorem arm_count (C : lj_H Z) (hR : REL M m9) (hi : i + 8 ≤ lj_n Z) (hc : cells + 1 ≤ 601024) (hs : slots + 6 ≤ 7293034) (kk : ∀ ν ξ f', REL ν ξ → lj Z 2365 (lj_b Z i) [] ν ξ f' (cells + 1) (slots + 6)) : lj Z 2340 (lj_b Z i) [] M m9 f cells slots := by
  obtain ⟨v, A, B, hv, hC, hM, hr⟩ := p_count (w := lj_v Z (i + 1)) hR
  rcases hv with ⟨q, -⟩ | ⟨-, x, rfl⟩
  · first | (cases q; done) | exact absurd q (by decide)
  refine lj_al (i := i) (k := 1) C lj_L.rf 1 rfl dL_law__2340 ?_
  refine lj_arg (i := i) (k := 1) C lj_L.rf rfl (by omega) dL_law__2341 dL_law__2342 dL_law__2344 dL_law__2345 dL_law__2346 ?_
  refine lj_cl (st := []) (as := [.int (lj_v Z (i + 1))]) C dL_law__2347 lL_246 qX9_count rfl rfl (fun _ => rfl) (fun _ => rfl) rfl (by decide) (by omega) (by omega) hC (fun ν hA => ?_)
  refine lj_al (i := i) (k := 2) C lj_L.rf 2 rfl dL_law__2350 ?_
  refine lj_arg (i := i) (k := 1) C lj_L.rf rfl (by omega) dL_law__2351 dL_law__2352 dL_law__2354 dL_law__2355 dL_law__2356 ?_
  refine lj_rf (st := [.int x]) (as := [.int (lj_v Z (i + 1))]) C dL_law__2357 lL_249 qX10_count rfl rfl (fun _ => rfl) (fun _ => rfl) rfl (Nat.le_of_ble_eq_true rfl) (by omega) (by omega) hM (fun ξ hB => ?_)
  exact lj_cmp (i := i) C dL_law__2360 (by decide) (lj_wide (by omega) (by omega) (kk ν ξ f (hr ν ξ hA hB).1))
end LA
