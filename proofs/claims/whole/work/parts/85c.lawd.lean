set_option maxHeartbeats 4000000 in
set_option maxRecDepth 100000 in
theorem law_c12 {p : Program} {l : Launch} {e : Env} {s : State} {m : MethodId} {below : List Frame} {meth : Method} {c : Code} {b L : Nat} {xs : Nat → Int32} {Q : State → Prop} {D : va_G} {cy : Nat → ClassId} {ax am : Nat → Nat} {cells slots : Nat} (C : LCx p s m c b L xs D cy ax am) (hcs : cells + 0 ≤ room_1.cells ∧ slots + 0 ≤ room_1.slots) {Rel : Nat → Mm → Mm → Prop} (S : Sims Rel) {k : Nat} (hk : k < 512) {MX MM : Mm} (hR : Rel k MX MM) {v3 : Int32} (g1 : vp_in (v3 + 1) L) (g2 : vp_in (v3 + 2) L) (next : ∀ MX1 MM1 : Mm, Rel (k + 1) MX1 MM1 → VL p l e s m below meth c b Q D cy ax am cells slots MX1 MM1 [(0, .ref b), (1, .ref (ax 0)), (2, .ref (am 0)), (3, .int v3)] 828 []) : VL p l e s m below meth c b Q D cy ax am cells slots MX MM [(0, .ref b), (1, .ref (ax 0)), (2, .ref (am 0)), (3, .int v3)] 460 [] := by
  have h := S.2.2.2.2.2.2.2.2.2.2.2.2.2.1 k MX MM (xs (v3 + 1).toNatClampNeg) (xs (v3 + 2).toNatClampNeg) hk hR
  refine VL_aload_n C 1 dL_law_460 rfl ?_
  refine VL_aload_n C 0 dL_law_461 rfl ?_
  refine VL_iload_n C 3 dL_law_462 rfl ?_
  refine VL_iconst (v := 1) C dL_law_463 (by decide) ?_
  refine VL_iadd C dL_law_464 ?_
  refine VL_sld C dL_law_465 g1 ?_
  refine VL_aload_n C 0 dL_law_466 rfl ?_
  refine VL_iload_n C 3 dL_law_467 rfl ?_
  refine VL_iconst (v := 2) C dL_law_468 (by decide) ?_
  refine VL_iadd C dL_law_469 ?_
  refine VL_sld C dL_law_470 g2 ?_
  refine VL_callXi (rest := []) C (c_X11_carpet l D cy ax (AX ax) C.2.2.1 (xs (v3 + 1).toNatClampNeg) (xs (v3 + 2).toNatClampNeg) MX _ h) (cwV 2 C.1.2.2.2.2 gL_law_X11_carpet rfl rfl rfl (by decide +kernel) ⟨by decide, by decide⟩) rfl rfl (Nat.le_of_ble_eq_true rfl) dL_law_471 hcs (fun r0 M0 h => ?_)
  refine VL_aload_n C 2 dL_law_474 rfl ?_
  refine VL_aload_n C 0 dL_law_475 rfl ?_
  refine VL_iload_n C 3 dL_law_476 rfl ?_
  refine VL_iconst (v := 1) C dL_law_477 (by decide) ?_
  refine VL_iadd C dL_law_478 ?_
  refine VL_sld C dL_law_479 g1 ?_
  refine VL_aload_n C 0 dL_law_480 rfl ?_
  refine VL_iload_n C 3 dL_law_481 rfl ?_
  refine VL_iconst (v := 2) C dL_law_482 (by decide) ?_
  refine VL_iadd C dL_law_483 ?_
  refine VL_sld C dL_law_484 g2 ?_
  refine VL_callMi (rest := [.int r0]) C (c_X12_carpet l D cy am (AM am) C.2.2.2.1 (xs (v3 + 1).toNatClampNeg) (xs (v3 + 2).toNatClampNeg) MM _ h) (cwV 2 C.1.2.2.2.2 gL_law_X12_carpet rfl rfl rfl (by decide +kernel) ⟨by decide, by decide⟩) rfl rfl (Nat.le_of_ble_eq_true rfl) dL_law_485 hcs (fun r1 M1 h => ?_)
  obtain ⟨h1, h2⟩ := h
  refine VL_icmp_eq C 828 dL_law_488 (by decide) (fun _ => ?_) (fun q => absurd h1 q)
  exact next _ _ h2
set_option maxHeartbeats 4000000 in
set_option maxRecDepth 100000 in
theorem law_c13 {p : Program} {l : Launch} {e : Env} {s : State} {m : MethodId} {below : List Frame} {meth : Method} {c : Code} {b L : Nat} {xs : Nat → Int32} {Q : State → Prop} {D : va_G} {cy : Nat → ClassId} {ax am : Nat → Nat} {cells slots : Nat} (C : LCx p s m c b L xs D cy ax am) (hcs : cells + 0 ≤ room_1.cells ∧ slots + 0 ≤ room_1.slots) {Rel : Nat → Mm → Mm → Prop} (S : Sims Rel) {k : Nat} (hk : k < 512) {MX MM : Mm} (hR : Rel k MX MM) {v3 : Int32} (g1 : vp_in (v3 + 1) L) (g2 : vp_in (v3 + 2) L) (g3 : vp_in (v3 + 3) L) (g4 : vp_in (v3 + 4) L) (next : ∀ MX1 MM1 : Mm, Rel (k + 1) MX1 MM1 → VL p l e s m below meth c b Q D cy ax am cells slots MX1 MM1 [(0, .ref b), (1, .ref (ax 0)), (2, .ref (am 0)), (3, .int v3)] 828 []) : VL p l e s m below meth c b Q D cy ax am cells slots MX MM [(0, .ref b), (1, .ref (ax 0)), (2, .ref (am 0)), (3, .int v3)] 493 [] := by
  have h := S.2.2.2.2.2.2.2.2.2.2.2.2.2.2.1 k MX MM (xs (v3 + 1).toNatClampNeg) (xs (v3 + 2).toNatClampNeg) (xs (v3 + 3).toNatClampNeg) (xs (v3 + 4).toNatClampNeg) hk hR
  refine VL_aload_n C 1 dL_law_493 rfl ?_
  refine VL_aload_n C 0 dL_law_494 rfl ?_
  refine VL_iload_n C 3 dL_law_495 rfl ?_
  refine VL_iconst (v := 1) C dL_law_496 (by decide) ?_
  refine VL_iadd C dL_law_497 ?_
  refine VL_sld C dL_law_498 g1 ?_
  refine VL_aload_n C 0 dL_law_499 rfl ?_
  refine VL_iload_n C 3 dL_law_500 rfl ?_
  refine VL_iconst (v := 2) C dL_law_501 (by decide) ?_
  refine VL_iadd C dL_law_502 ?_
  refine VL_sld C dL_law_503 g2 ?_
  refine VL_aload_n C 0 dL_law_504 rfl ?_
  refine VL_iload_n C 3 dL_law_505 rfl ?_
  refine VL_iconst (v := 3) C dL_law_506 (by decide) ?_
  refine VL_iadd C dL_law_507 ?_
  refine VL_sld C dL_law_508 g3 ?_
  refine VL_aload_n C 0 dL_law_509 rfl ?_
  refine VL_iload_n C 3 dL_law_510 rfl ?_
  refine VL_iconst (v := 4) C dL_law_511 (by decide) ?_
  refine VL_iadd C dL_law_512 ?_
  refine VL_sld C dL_law_513 g4 ?_
  refine VL_callXi (rest := []) C (c_X11_far l D cy ax (AX ax) C.2.2.1 (xs (v3 + 1).toNatClampNeg) (xs (v3 + 2).toNatClampNeg) (xs (v3 + 3).toNatClampNeg) (xs (v3 + 4).toNatClampNeg) MX _ h) (cwV 4 C.1.2.2.2.2 gL_law_X11_far rfl rfl rfl (by decide +kernel) ⟨by decide, by decide⟩) rfl rfl (Nat.le_of_ble_eq_true rfl) dL_law_514 hcs (fun r0 M0 h => ?_)
  refine VL_aload_n C 2 dL_law_517 rfl ?_
  refine VL_aload_n C 0 dL_law_518 rfl ?_
  refine VL_iload_n C 3 dL_law_519 rfl ?_
  refine VL_iconst (v := 1) C dL_law_520 (by decide) ?_
  refine VL_iadd C dL_law_521 ?_
  refine VL_sld C dL_law_522 g1 ?_
  refine VL_aload_n C 0 dL_law_523 rfl ?_
  refine VL_iload_n C 3 dL_law_524 rfl ?_
  refine VL_iconst (v := 2) C dL_law_525 (by decide) ?_
  refine VL_iadd C dL_law_526 ?_
  refine VL_sld C dL_law_527 g2 ?_
  refine VL_aload_n C 0 dL_law_528 rfl ?_
  refine VL_iload_n C 3 dL_law_529 rfl ?_
  refine VL_iconst (v := 3) C dL_law_530 (by decide) ?_
  refine VL_iadd C dL_law_531 ?_
  refine VL_sld C dL_law_532 g3 ?_
  refine VL_aload_n C 0 dL_law_533 rfl ?_
  refine VL_iload_n C 3 dL_law_534 rfl ?_
  refine VL_iconst (v := 4) C dL_law_535 (by decide) ?_
  refine VL_iadd C dL_law_536 ?_
  refine VL_sld C dL_law_537 g4 ?_
  refine VL_callMi (rest := [.int r0]) C (c_X12_far l D cy am (AM am) C.2.2.2.1 (xs (v3 + 1).toNatClampNeg) (xs (v3 + 2).toNatClampNeg) (xs (v3 + 3).toNatClampNeg) (xs (v3 + 4).toNatClampNeg) MM _ h) (cwV 4 C.1.2.2.2.2 gL_law_X12_far rfl rfl rfl (by decide +kernel) ⟨by decide, by decide⟩) rfl rfl (Nat.le_of_ble_eq_true rfl) dL_law_538 hcs (fun r1 M1 h => ?_)
  obtain ⟨h1, h2⟩ := h
  refine VL_icmp_eq C 828 dL_law_541 (by decide) (fun _ => ?_) (fun q => absurd h1 q)
  exact next _ _ h2
set_option maxHeartbeats 4000000 in
set_option maxRecDepth 100000 in
theorem law_c14 {p : Program} {l : Launch} {e : Env} {s : State} {m : MethodId} {below : List Frame} {meth : Method} {c : Code} {b L : Nat} {xs : Nat → Int32} {Q : State → Prop} {D : va_G} {cy : Nat → ClassId} {ax am : Nat → Nat} {cells slots : Nat} (C : LCx p s m c b L xs D cy ax am) (hcs : cells + 0 ≤ room_1.cells ∧ slots + 0 ≤ room_1.slots) {Rel : Nat → Mm → Mm → Prop} (S : Sims Rel) {k : Nat} (hk : k < 512) {MX MM : Mm} (hR : Rel k MX MM) {v3 : Int32} (g1 : vp_in (v3 + 1) L) (next : ∀ MX1 MM1 : Mm, Rel (k + 1) MX1 MM1 → VL p l e s m below meth c b Q D cy ax am cells slots MX1 MM1 [(0, .ref b), (1, .ref (ax 0)), (2, .ref (am 0)), (3, .int v3)] 828 []) : VL p l e s m below meth c b Q D cy ax am cells slots MX MM [(0, .ref b), (1, .ref (ax 0)), (2, .ref (am 0)), (3, .int v3)] 546 [] := by
  have h := S.2.2.2.2.2.2.2.2.2.2.2.2.2.2.2.1 k MX MM (xs (v3 + 1).toNatClampNeg) hk hR
  refine VL_aload_n C 1 dL_law_546 rfl ?_
  refine VL_aload_n C 0 dL_law_547 rfl ?_
  refine VL_iload_n C 3 dL_law_548 rfl ?_
  refine VL_iconst (v := 1) C dL_law_549 (by decide) ?_
  refine VL_iadd C dL_law_550 ?_
  refine VL_sld C dL_law_551 g1 ?_
  refine VL_callXi (rest := []) C (c_X11_send l D cy ax (AX ax) C.2.2.1 (xs (v3 + 1).toNatClampNeg) MX _ h) (cwV 1 C.1.2.2.2.2 gL_law_X11_send rfl rfl rfl (by decide +kernel) ⟨by decide, by decide⟩) rfl rfl (Nat.le_of_ble_eq_true rfl) dL_law_552 hcs (fun r0 M0 h => ?_)
  refine VL_aload_n C 2 dL_law_555 rfl ?_
  refine VL_aload_n C 0 dL_law_556 rfl ?_
  refine VL_iload_n C 3 dL_law_557 rfl ?_
  refine VL_iconst (v := 1) C dL_law_558 (by decide) ?_
  refine VL_iadd C dL_law_559 ?_
  refine VL_sld C dL_law_560 g1 ?_
  refine VL_callMi (rest := [.int r0]) C (c_X12_send l D cy am (AM am) C.2.2.2.1 (xs (v3 + 1).toNatClampNeg) MM _ h) (cwV 1 C.1.2.2.2.2 gL_law_X12_send rfl rfl rfl (by decide +kernel) ⟨by decide, by decide⟩) rfl rfl (Nat.le_of_ble_eq_true rfl) dL_law_561 hcs (fun r1 M1 h => ?_)
  obtain ⟨h1, h2⟩ := h
  refine VL_icmp_eq C 828 dL_law_564 (by decide) (fun _ => ?_) (fun q => absurd h1 q)
  exact next _ _ h2
set_option maxHeartbeats 4000000 in
set_option maxRecDepth 100000 in
theorem law_c15 {p : Program} {l : Launch} {e : Env} {s : State} {m : MethodId} {below : List Frame} {meth : Method} {c : Code} {b L : Nat} {xs : Nat → Int32} {Q : State → Prop} {D : va_G} {cy : Nat → ClassId} {ax am : Nat → Nat} {cells slots : Nat} (C : LCx p s m c b L xs D cy ax am) (hcs : cells + 0 ≤ room_1.cells ∧ slots + 0 ≤ room_1.slots) {Rel : Nat → Mm → Mm → Prop} (S : Sims Rel) {k : Nat} (hk : k < 512) {MX MM : Mm} (hR : Rel k MX MM) {v3 : Int32} (g1 : vp_in (v3 + 1) L) (g2 : vp_in (v3 + 2) L) (next : ∀ MX1 MM1 : Mm, Rel (k + 1) MX1 MM1 → VL p l e s m below meth c b Q D cy ax am cells slots MX1 MM1 [(0, .ref b), (1, .ref (ax 0)), (2, .ref (am 0)), (3, .int v3)] 828 []) : VL p l e s m below meth c b Q D cy ax am cells slots MX MM [(0, .ref b), (1, .ref (ax 0)), (2, .ref (am 0)), (3, .int v3)] 569 [] := by
  have h := S.2.2.2.2.2.2.2.2.2.2.2.2.2.2.2.2.1 k MX MM (xs (v3 + 1).toNatClampNeg) (xs (v3 + 2).toNatClampNeg) hk hR
  refine VL_aload_n C 1 dL_law_569 rfl ?_
  refine VL_aload_n C 0 dL_law_570 rfl ?_
  refine VL_iload_n C 3 dL_law_571 rfl ?_
  refine VL_iconst (v := 1) C dL_law_572 (by decide) ?_
  refine VL_iadd C dL_law_573 ?_
  refine VL_sld C dL_law_574 g1 ?_
  refine VL_aload_n C 0 dL_law_575 rfl ?_
  refine VL_iload_n C 3 dL_law_576 rfl ?_
  refine VL_iconst (v := 2) C dL_law_577 (by decide) ?_
  refine VL_iadd C dL_law_578 ?_
  refine VL_sld C dL_law_579 g2 ?_
  refine VL_callXi (rest := []) C (c_X11_pairs l D cy ax (AX ax) C.2.2.1 (xs (v3 + 1).toNatClampNeg) (xs (v3 + 2).toNatClampNeg) MX _ h) (cwV 2 C.1.2.2.2.2 gL_law_X11_pairs rfl rfl rfl (by decide +kernel) ⟨by decide, by decide⟩) rfl rfl (Nat.le_of_ble_eq_true rfl) dL_law_580 hcs (fun r0 M0 h => ?_)
  refine VL_aload_n C 2 dL_law_583 rfl ?_
  refine VL_aload_n C 0 dL_law_584 rfl ?_
  refine VL_iload_n C 3 dL_law_585 rfl ?_
  refine VL_iconst (v := 1) C dL_law_586 (by decide) ?_
  refine VL_iadd C dL_law_587 ?_
  refine VL_sld C dL_law_588 g1 ?_
  refine VL_aload_n C 0 dL_law_589 rfl ?_
  refine VL_iload_n C 3 dL_law_590 rfl ?_
  refine VL_iconst (v := 2) C dL_law_591 (by decide) ?_
  refine VL_iadd C dL_law_592 ?_
  refine VL_sld C dL_law_593 g2 ?_
  refine VL_callMi (rest := [.int r0]) C (c_X12_pairs l D cy am (AM am) C.2.2.2.1 (xs (v3 + 1).toNatClampNeg) (xs (v3 + 2).toNatClampNeg) MM _ h) (cwV 2 C.1.2.2.2.2 gL_law_X12_pairs rfl rfl rfl (by decide +kernel) ⟨by decide, by decide⟩) rfl rfl (Nat.le_of_ble_eq_true rfl) dL_law_594 hcs (fun r1 M1 h => ?_)
  obtain ⟨h1, h2⟩ := h
  refine VL_icmp_eq C 828 dL_law_597 (by decide) (fun _ => ?_) (fun q => absurd h1 q)
  exact next _ _ h2
set_option maxHeartbeats 4000000 in
set_option maxRecDepth 100000 in
theorem law_c16 {p : Program} {l : Launch} {e : Env} {s : State} {m : MethodId} {below : List Frame} {meth : Method} {c : Code} {b L : Nat} {xs : Nat → Int32} {Q : State → Prop} {D : va_G} {cy : Nat → ClassId} {ax am : Nat → Nat} {cells slots : Nat} (C : LCx p s m c b L xs D cy ax am) (hcs : cells + 0 ≤ room_1.cells ∧ slots + 0 ≤ room_1.slots) {Rel : Nat → Mm → Mm → Prop} (S : Sims Rel) {k : Nat} (hk : k < 512) {MX MM : Mm} (hR : Rel k MX MM) {v3 : Int32} (g1 : vp_in (v3 + 1) L) (g2 : vp_in (v3 + 2) L) (g3 : vp_in (v3 + 3) L) (g4 : vp_in (v3 + 4) L) (next : ∀ MX1 MM1 : Mm, Rel (k + 1) MX1 MM1 → VL p l e s m below meth c b Q D cy ax am cells slots MX1 MM1 [(0, .ref b), (1, .ref (ax 0)), (2, .ref (am 0)), (3, .int v3)] 828 []) : VL p l e s m below meth c b Q D cy ax am cells slots MX MM [(0, .ref b), (1, .ref (ax 0)), (2, .ref (am 0)), (3, .int v3)] 602 [] := by
  have h := S.2.2.2.2.2.2.2.2.2.2.2.2.2.2.2.2.2.1 k MX MM (xs (v3 + 1).toNatClampNeg) (xs (v3 + 2).toNatClampNeg) (xs (v3 + 3).toNatClampNeg) (xs (v3 + 4).toNatClampNeg) hk hR
  refine VL_aload_n C 1 dL_law_602 rfl ?_
  refine VL_aload_n C 0 dL_law_603 rfl ?_
  refine VL_iload_n C 3 dL_law_604 rfl ?_
  refine VL_iconst (v := 1) C dL_law_605 (by decide) ?_
  refine VL_iadd C dL_law_606 ?_
  refine VL_sld C dL_law_607 g1 ?_
  refine VL_aload_n C 0 dL_law_608 rfl ?_
  refine VL_iload_n C 3 dL_law_609 rfl ?_
  refine VL_iconst (v := 2) C dL_law_610 (by decide) ?_
  refine VL_iadd C dL_law_611 ?_
  refine VL_sld C dL_law_612 g2 ?_
  refine VL_aload_n C 0 dL_law_613 rfl ?_
  refine VL_iload_n C 3 dL_law_614 rfl ?_
  refine VL_iconst (v := 3) C dL_law_615 (by decide) ?_
  refine VL_iadd C dL_law_616 ?_
  refine VL_sld C dL_law_617 g3 ?_
  refine VL_aload_n C 0 dL_law_618 rfl ?_
  refine VL_iload_n C 3 dL_law_619 rfl ?_
  refine VL_iconst (v := 4) C dL_law_620 (by decide) ?_
  refine VL_iadd C dL_law_621 ?_
  refine VL_sld C dL_law_622 g4 ?_
  refine VL_callXl (rest := []) C (c_X11_meet l D cy ax (AX ax) C.2.2.1 (xs (v3 + 1).toNatClampNeg) (xs (v3 + 2).toNatClampNeg) (xs (v3 + 3).toNatClampNeg) (xs (v3 + 4).toNatClampNeg) MX _ h) (cwV 4 C.1.2.2.2.2 gL_law_X11_meet rfl rfl rfl (by decide +kernel) ⟨by decide, by decide⟩) rfl rfl (Nat.le_of_ble_eq_true rfl) dL_law_623 hcs (fun r0 M0 h => ?_)
  refine VL_aload_n C 2 dL_law_626 rfl ?_
  refine VL_aload_n C 0 dL_law_627 rfl ?_
  refine VL_iload_n C 3 dL_law_628 rfl ?_
  refine VL_iconst (v := 1) C dL_law_629 (by decide) ?_
  refine VL_iadd C dL_law_630 ?_
  refine VL_sld C dL_law_631 g1 ?_
  refine VL_aload_n C 0 dL_law_632 rfl ?_
  refine VL_iload_n C 3 dL_law_633 rfl ?_
  refine VL_iconst (v := 2) C dL_law_634 (by decide) ?_
  refine VL_iadd C dL_law_635 ?_
  refine VL_sld C dL_law_636 g2 ?_
  refine VL_aload_n C 0 dL_law_637 rfl ?_
  refine VL_iload_n C 3 dL_law_638 rfl ?_
  refine VL_iconst (v := 3) C dL_law_639 (by decide) ?_
  refine VL_iadd C dL_law_640 ?_
  refine VL_sld C dL_law_641 g3 ?_
  refine VL_aload_n C 0 dL_law_642 rfl ?_
  refine VL_iload_n C 3 dL_law_643 rfl ?_
  refine VL_iconst (v := 4) C dL_law_644 (by decide) ?_
  refine VL_iadd C dL_law_645 ?_
  refine VL_sld C dL_law_646 g4 ?_
  refine VL_callMl (rest := [.long r0]) C (c_X12_meet l D cy am (AM am) C.2.2.2.1 (xs (v3 + 1).toNatClampNeg) (xs (v3 + 2).toNatClampNeg) (xs (v3 + 3).toNatClampNeg) (xs (v3 + 4).toNatClampNeg) MM _ h) (cwV 4 C.1.2.2.2.2 gL_law_X12_meet rfl rfl rfl (by decide +kernel) ⟨by decide, by decide⟩) rfl rfl (Nat.le_of_ble_eq_true rfl) dL_law_647 hcs (fun r1 M1 h => ?_)
  refine VL_lcmp C dL_law_650 ?_
  obtain ⟨h1, h2⟩ := h
  refine VL_if_eq C 828 dL_law_651 (by decide) (fun _ => ?_) (fun q => absurd (by rw [h1]; exact lg_cmp_self _) q)
  exact next _ _ h2
set_option maxHeartbeats 4000000 in
set_option maxRecDepth 100000 in
theorem law_c17 {p : Program} {l : Launch} {e : Env} {s : State} {m : MethodId} {below : List Frame} {meth : Method} {c : Code} {b L : Nat} {xs : Nat → Int32} {Q : State → Prop} {D : va_G} {cy : Nat → ClassId} {ax am : Nat → Nat} {cells slots : Nat} (C : LCx p s m c b L xs D cy ax am) (hcs : cells + 0 ≤ room_1.cells ∧ slots + 0 ≤ room_1.slots) {Rel : Nat → Mm → Mm → Prop} (S : Sims Rel) {k : Nat} (hk : k < 512) {MX MM : Mm} (hR : Rel k MX MM) {v3 : Int32} (g1 : vp_in (v3 + 1) L) (g2 : vp_in (v3 + 2) L) (g3 : vp_in (v3 + 3) L) (g4 : vp_in (v3 + 4) L) (next : ∀ MX1 MM1 : Mm, Rel (k + 1) MX1 MM1 → VL p l e s m below meth c b Q D cy ax am cells slots MX1 MM1 [(0, .ref b), (1, .ref (ax 0)), (2, .ref (am 0)), (3, .int v3)] 828 []) : VL p l e s m below meth c b Q D cy ax am cells slots MX MM [(0, .ref b), (1, .ref (ax 0)), (2, .ref (am 0)), (3, .int v3)] 656 [] := by
  have h := S.2.2.2.2.2.2.2.2.2.2.2.2.2.2.2.2.2.2.1 k MX MM (xs (v3 + 1).toNatClampNeg) (xs (v3 + 2).toNatClampNeg) (xs (v3 + 3).toNatClampNeg) (xs (v3 + 4).toNatClampNeg) hk hR
  refine VL_aload_n C 1 dL_law_656 rfl ?_
  refine VL_aload_n C 0 dL_law_657 rfl ?_
  refine VL_iload_n C 3 dL_law_658 rfl ?_
  refine VL_iconst (v := 1) C dL_law_659 (by decide) ?_
  refine VL_iadd C dL_law_660 ?_
  refine VL_sld C dL_law_661 g1 ?_
  refine VL_aload_n C 0 dL_law_662 rfl ?_
  refine VL_iload_n C 3 dL_law_663 rfl ?_
  refine VL_iconst (v := 2) C dL_law_664 (by decide) ?_
  refine VL_iadd C dL_law_665 ?_
  refine VL_sld C dL_law_666 g2 ?_
  refine VL_aload_n C 0 dL_law_667 rfl ?_
  refine VL_iload_n C 3 dL_law_668 rfl ?_
  refine VL_iconst (v := 3) C dL_law_669 (by decide) ?_
  refine VL_iadd C dL_law_670 ?_
  refine VL_sld C dL_law_671 g3 ?_
  refine VL_aload_n C 0 dL_law_672 rfl ?_
  refine VL_iload_n C 3 dL_law_673 rfl ?_
  refine VL_iconst (v := 4) C dL_law_674 (by decide) ?_
  refine VL_iadd C dL_law_675 ?_
  refine VL_sld C dL_law_676 g4 ?_
  refine VL_callXi (rest := []) C (c_X11_see l D cy ax (AX ax) C.2.2.1 (xs (v3 + 1).toNatClampNeg) (xs (v3 + 2).toNatClampNeg) (xs (v3 + 3).toNatClampNeg) (xs (v3 + 4).toNatClampNeg) MX _ h) (cwV 4 C.1.2.2.2.2 gL_law_X11_see rfl rfl rfl (by decide +kernel) ⟨by decide, by decide⟩) rfl rfl (Nat.le_of_ble_eq_true rfl) dL_law_677 hcs (fun r0 M0 h => ?_)
  refine VL_aload_n C 2 dL_law_680 rfl ?_
  refine VL_aload_n C 0 dL_law_681 rfl ?_
  refine VL_iload_n C 3 dL_law_682 rfl ?_
  refine VL_iconst (v := 1) C dL_law_683 (by decide) ?_
  refine VL_iadd C dL_law_684 ?_
  refine VL_sld C dL_law_685 g1 ?_
  refine VL_aload_n C 0 dL_law_686 rfl ?_
  refine VL_iload_n C 3 dL_law_687 rfl ?_
  refine VL_iconst (v := 2) C dL_law_688 (by decide) ?_
  refine VL_iadd C dL_law_689 ?_
  refine VL_sld C dL_law_690 g2 ?_
  refine VL_aload_n C 0 dL_law_691 rfl ?_
  refine VL_iload_n C 3 dL_law_692 rfl ?_
  refine VL_iconst (v := 3) C dL_law_693 (by decide) ?_
  refine VL_iadd C dL_law_694 ?_
  refine VL_sld C dL_law_695 g3 ?_
  refine VL_aload_n C 0 dL_law_696 rfl ?_
  refine VL_iload_n C 3 dL_law_697 rfl ?_
  refine VL_iconst (v := 4) C dL_law_698 (by decide) ?_
  refine VL_iadd C dL_law_699 ?_
  refine VL_sld C dL_law_700 g4 ?_
  refine VL_callMi (rest := [.int r0]) C (c_X12_see l D cy am (AM am) C.2.2.2.1 (xs (v3 + 1).toNatClampNeg) (xs (v3 + 2).toNatClampNeg) (xs (v3 + 3).toNatClampNeg) (xs (v3 + 4).toNatClampNeg) MM _ h) (cwV 4 C.1.2.2.2.2 gL_law_X12_see rfl rfl rfl (by decide +kernel) ⟨by decide, by decide⟩) rfl rfl (Nat.le_of_ble_eq_true rfl) dL_law_701 hcs (fun r1 M1 h => ?_)
  obtain ⟨h1, h2⟩ := h
  refine VL_icmp_eq C 828 dL_law_704 (by decide) (fun _ => ?_) (fun q => absurd h1 q)
  exact next _ _ h2
set_option maxHeartbeats 4000000 in
set_option maxRecDepth 100000 in
theorem law_c18 {p : Program} {l : Launch} {e : Env} {s : State} {m : MethodId} {below : List Frame} {meth : Method} {c : Code} {b L : Nat} {xs : Nat → Int32} {Q : State → Prop} {D : va_G} {cy : Nat → ClassId} {ax am : Nat → Nat} {cells slots : Nat} (C : LCx p s m c b L xs D cy ax am) (hcs : cells + 0 ≤ room_1.cells ∧ slots + 0 ≤ room_1.slots) {Rel : Nat → Mm → Mm → Prop} (S : Sims Rel) {k : Nat} (hk : k < 512) {MX MM : Mm} (hR : Rel k MX MM) {v3 : Int32}  (next : ∀ MX1 MM1 : Mm, Rel (k + 1) MX1 MM1 → VL p l e s m below meth c b Q D cy ax am cells slots MX1 MM1 [(0, .ref b), (1, .ref (ax 0)), (2, .ref (am 0)), (3, .int v3)] 828 []) : VL p l e s m below meth c b Q D cy ax am cells slots MX MM [(0, .ref b), (1, .ref (ax 0)), (2, .ref (am 0)), (3, .int v3)] 709 [] := by
  have h := S.2.2.2.2.2.2.2.2.2.2.2.2.2.2.2.2.2.2.2.1 k MX MM  hk hR
  refine VL_aload_n C 1 dL_law_709 rfl ?_
  refine VL_callXi (rest := []) C (c_X11_forget l D cy ax (AX ax) C.2.2.1  MX _ h) (cwV 0 C.1.2.2.2.2 gL_law_X11_forget rfl rfl rfl (by decide +kernel) ⟨by decide, by decide⟩) rfl rfl (Nat.le_of_ble_eq_true rfl) dL_law_710 hcs (fun r0 M0 h => ?_)
  refine VL_aload_n C 2 dL_law_713 rfl ?_
  refine VL_callMi (rest := [.int r0]) C (c_X12_forget l D cy am (AM am) C.2.2.2.1  MM _ h) (cwV 0 C.1.2.2.2.2 gL_law_X12_forget rfl rfl rfl (by decide +kernel) ⟨by decide, by decide⟩) rfl rfl (Nat.le_of_ble_eq_true rfl) dL_law_714 hcs (fun r1 M1 h => ?_)
  obtain ⟨h1, h2⟩ := h
  refine VL_icmp_eq C 828 dL_law_717 (by decide) (fun _ => ?_) (fun q => absurd h1 q)
  exact next _ _ h2
set_option maxHeartbeats 4000000 in
set_option maxRecDepth 100000 in
theorem law_c19 {p : Program} {l : Launch} {e : Env} {s : State} {m : MethodId} {below : List Frame} {meth : Method} {c : Code} {b L : Nat} {xs : Nat → Int32} {Q : State → Prop} {D : va_G} {cy : Nat → ClassId} {ax am : Nat → Nat} {cells slots : Nat} (C : LCx p s m c b L xs D cy ax am) (hcs : cells + 0 ≤ room_1.cells ∧ slots + 0 ≤ room_1.slots) {Rel : Nat → Mm → Mm → Prop} (S : Sims Rel) {k : Nat} (hk : k < 512) {MX MM : Mm} (hR : Rel k MX MM) {v3 : Int32} (g1 : vp_in (v3 + 1) L) (g2 : vp_in (v3 + 2) L) (g3 : vp_in (v3 + 3) L) (next : ∀ MX1 MM1 : Mm, Rel (k + 1) MX1 MM1 → VL p l e s m below meth c b Q D cy ax am cells slots MX1 MM1 [(0, .ref b), (1, .ref (ax 0)), (2, .ref (am 0)), (3, .int v3)] 828 []) : VL p l e s m below meth c b Q D cy ax am cells slots MX MM [(0, .ref b), (1, .ref (ax 0)), (2, .ref (am 0)), (3, .int v3)] 722 [] := by
  have h := S.2.2.2.2.2.2.2.2.2.2.2.2.2.2.2.2.2.2.2.2.1 k MX MM (xs (v3 + 1).toNatClampNeg) (xs (v3 + 2).toNatClampNeg) (xs (v3 + 3).toNatClampNeg) hk hR
  refine VL_aload_n C 1 dL_law_722 rfl ?_
  refine VL_aload_n C 0 dL_law_723 rfl ?_
  refine VL_iload_n C 3 dL_law_724 rfl ?_
  refine VL_iconst (v := 1) C dL_law_725 (by decide) ?_
  refine VL_iadd C dL_law_726 ?_
  refine VL_sld C dL_law_727 g1 ?_
  refine VL_aload_n C 0 dL_law_728 rfl ?_
  refine VL_iload_n C 3 dL_law_729 rfl ?_
  refine VL_iconst (v := 2) C dL_law_730 (by decide) ?_
  refine VL_iadd C dL_law_731 ?_
  refine VL_sld C dL_law_732 g2 ?_
  refine VL_aload_n C 0 dL_law_733 rfl ?_
  refine VL_iload_n C 3 dL_law_734 rfl ?_
  refine VL_iconst (v := 3) C dL_law_735 (by decide) ?_
  refine VL_iadd C dL_law_736 ?_
  refine VL_sld C dL_law_737 g3 ?_
  refine VL_callXi (rest := []) C (c_X11_days l D cy ax (AX ax) C.2.2.1 (xs (v3 + 1).toNatClampNeg) (xs (v3 + 2).toNatClampNeg) (xs (v3 + 3).toNatClampNeg) MX _ h) (cwV 3 C.1.2.2.2.2 gL_law_X11_days rfl rfl rfl (by decide +kernel) ⟨by decide, by decide⟩) rfl rfl (Nat.le_of_ble_eq_true rfl) dL_law_738 hcs (fun r0 M0 h => ?_)
  refine VL_aload_n C 2 dL_law_741 rfl ?_
  refine VL_aload_n C 0 dL_law_742 rfl ?_
  refine VL_iload_n C 3 dL_law_743 rfl ?_
  refine VL_iconst (v := 1) C dL_law_744 (by decide) ?_
  refine VL_iadd C dL_law_745 ?_
  refine VL_sld C dL_law_746 g1 ?_
  refine VL_aload_n C 0 dL_law_747 rfl ?_
  refine VL_iload_n C 3 dL_law_748 rfl ?_
  refine VL_iconst (v := 2) C dL_law_749 (by decide) ?_
  refine VL_iadd C dL_law_750 ?_
  refine VL_sld C dL_law_751 g2 ?_
  refine VL_aload_n C 0 dL_law_752 rfl ?_
  refine VL_iload_n C 3 dL_law_753 rfl ?_
  refine VL_iconst (v := 3) C dL_law_754 (by decide) ?_
  refine VL_iadd C dL_law_755 ?_
  refine VL_sld C dL_law_756 g3 ?_
  refine VL_callMi (rest := [.int r0]) C (c_X12_days l D cy am (AM am) C.2.2.2.1 (xs (v3 + 1).toNatClampNeg) (xs (v3 + 2).toNatClampNeg) (xs (v3 + 3).toNatClampNeg) MM _ h) (cwV 3 C.1.2.2.2.2 gL_law_X12_days rfl rfl rfl (by decide +kernel) ⟨by decide, by decide⟩) rfl rfl (Nat.le_of_ble_eq_true rfl) dL_law_757 hcs (fun r1 M1 h => ?_)
  obtain ⟨h1, h2⟩ := h
  refine VL_icmp_eq C 828 dL_law_760 (by decide) (fun _ => ?_) (fun q => absurd h1 q)
  exact next _ _ h2
set_option maxHeartbeats 4000000 in
set_option maxRecDepth 100000 in
theorem law_c20 {p : Program} {l : Launch} {e : Env} {s : State} {m : MethodId} {below : List Frame} {meth : Method} {c : Code} {b L : Nat} {xs : Nat → Int32} {Q : State → Prop} {D : va_G} {cy : Nat → ClassId} {ax am : Nat → Nat} {cells slots : Nat} (C : LCx p s m c b L xs D cy ax am) (hcs : cells + 0 ≤ room_1.cells ∧ slots + 0 ≤ room_1.slots) {Rel : Nat → Mm → Mm → Prop} (S : Sims Rel) {k : Nat} (hk : k < 512) {MX MM : Mm} (hR : Rel k MX MM) {v3 : Int32}  (next : ∀ MX1 MM1 : Mm, Rel (k + 1) MX1 MM1 → VL p l e s m below meth c b Q D cy ax am cells slots MX1 MM1 [(0, .ref b), (1, .ref (ax 0)), (2, .ref (am 0)), (3, .int v3)] 828 []) : VL p l e s m below meth c b Q D cy ax am cells slots MX MM [(0, .ref b), (1, .ref (ax 0)), (2, .ref (am 0)), (3, .int v3)] 765 [] := by
  have h := S.2.2.2.2.2.2.2.2.2.2.2.2.2.2.2.2.2.2.2.2.2.1 k MX MM  hk hR
  refine VL_aload_n C 1 dL_law_765 rfl ?_
  refine VL_callXi (rest := []) C (c_X11_image l D cy ax (AX ax) C.2.2.1  MX _ h) (cwV 0 C.1.2.2.2.2 gL_law_X11_image rfl rfl rfl (by decide +kernel) ⟨by decide, by decide⟩) rfl rfl (Nat.le_of_ble_eq_true rfl) dL_law_766 hcs (fun r0 M0 h => ?_)
  refine VL_aload_n C 2 dL_law_769 rfl ?_
  refine VL_callMi (rest := [.int r0]) C (c_X12_image l D cy am (AM am) C.2.2.2.1  MM _ h) (cwV 0 C.1.2.2.2.2 gL_law_X12_image rfl rfl rfl (by decide +kernel) ⟨by decide, by decide⟩) rfl rfl (Nat.le_of_ble_eq_true rfl) dL_law_770 hcs (fun r1 M1 h => ?_)
  obtain ⟨h1, h2⟩ := h
  refine VL_icmp_eq C 828 dL_law_773 (by decide) (fun _ => ?_) (fun q => absurd h1 q)
  exact next _ _ h2
set_option maxHeartbeats 4000000 in
set_option maxRecDepth 100000 in
theorem law_c21 {p : Program} {l : Launch} {e : Env} {s : State} {m : MethodId} {below : List Frame} {meth : Method} {c : Code} {b L : Nat} {xs : Nat → Int32} {Q : State → Prop} {D : va_G} {cy : Nat → ClassId} {ax am : Nat → Nat} {cells slots : Nat} (C : LCx p s m c b L xs D cy ax am) (hcs : cells + 0 ≤ room_1.cells ∧ slots + 0 ≤ room_1.slots) {Rel : Nat → Mm → Mm → Prop} (S : Sims Rel) {k : Nat} (hk : k < 512) {MX MM : Mm} (hR : Rel k MX MM) {v3 : Int32}  (next : ∀ MX1 MM1 : Mm, Rel (k + 1) MX1 MM1 → VL p l e s m below meth c b Q D cy ax am cells slots MX1 MM1 [(0, .ref b), (1, .ref (ax 0)), (2, .ref (am 0)), (3, .int v3)] 828 []) : VL p l e s m below meth c b Q D cy ax am cells slots MX MM [(0, .ref b), (1, .ref (ax 0)), (2, .ref (am 0)), (3, .int v3)] 778 [] := by
  have h := S.2.2.2.2.2.2.2.2.2.2.2.2.2.2.2.2.2.2.2.2.2.2.1 k MX MM  hk hR
  refine VL_aload_n C 1 dL_law_778 rfl ?_
  refine VL_callXi (rest := []) C (c_X11_restore l D cy ax (AX ax) C.2.2.1  MX _ h) (cwV 0 C.1.2.2.2.2 gL_law_X11_restore rfl rfl rfl (by decide +kernel) ⟨by decide, by decide⟩) rfl rfl (Nat.le_of_ble_eq_true rfl) dL_law_779 hcs (fun r0 M0 h => ?_)
  refine VL_aload_n C 2 dL_law_782 rfl ?_
  refine VL_callMi (rest := [.int r0]) C (c_X12_restore l D cy am (AM am) C.2.2.2.1  MM _ h) (cwV 0 C.1.2.2.2.2 gL_law_X12_restore rfl rfl rfl (by decide +kernel) ⟨by decide, by decide⟩) rfl rfl (Nat.le_of_ble_eq_true rfl) dL_law_783 hcs (fun r1 M1 h => ?_)
  obtain ⟨h1, h2⟩ := h
  refine VL_icmp_eq C 828 dL_law_786 (by decide) (fun _ => ?_) (fun q => absurd h1 q)
  exact next _ _ h2
set_option maxHeartbeats 4000000 in
set_option maxRecDepth 100000 in
theorem law_c22 {p : Program} {l : Launch} {e : Env} {s : State} {m : MethodId} {below : List Frame} {meth : Method} {c : Code} {b L : Nat} {xs : Nat → Int32} {Q : State → Prop} {D : va_G} {cy : Nat → ClassId} {ax am : Nat → Nat} {cells slots : Nat} (C : LCx p s m c b L xs D cy ax am) (hcs : cells + 0 ≤ room_1.cells ∧ slots + 0 ≤ room_1.slots) {Rel : Nat → Mm → Mm → Prop} (S : Sims Rel) {k : Nat} (hk : k < 512) {MX MM : Mm} (hR : Rel k MX MM) {v3 : Int32} (g1 : vp_in (v3 + 1) L) (next : ∀ MX1 MM1 : Mm, Rel (k + 1) MX1 MM1 → VL p l e s m below meth c b Q D cy ax am cells slots MX1 MM1 [(0, .ref b), (1, .ref (ax 0)), (2, .ref (am 0)), (3, .int v3)] 828 []) : VL p l e s m below meth c b Q D cy ax am cells slots MX MM [(0, .ref b), (1, .ref (ax 0)), (2, .ref (am 0)), (3, .int v3)] 791 [] := by
  have h := S.2.2.2.2.2.2.2.2.2.2.2.2.2.2.2.2.2.2.2.2.2.2.2.1 k MX MM (xs (v3 + 1).toNatClampNeg) hk hR
  refine VL_aload_n C 1 dL_law_791 rfl ?_
  refine VL_aload_n C 0 dL_law_792 rfl ?_
  refine VL_iload_n C 3 dL_law_793 rfl ?_
  refine VL_iconst (v := 1) C dL_law_794 (by decide) ?_
  refine VL_iadd C dL_law_795 ?_
  refine VL_sld C dL_law_796 g1 ?_
  refine VL_callXi (rest := []) C (c_X11_count l D cy ax (AX ax) C.2.2.1 (xs (v3 + 1).toNatClampNeg) MX _ h) (cwV 1 C.1.2.2.2.2 gL_law_X11_count rfl rfl rfl (by decide +kernel) ⟨by decide, by decide⟩) rfl rfl (Nat.le_of_ble_eq_true rfl) dL_law_797 hcs (fun r0 M0 h => ?_)
  refine VL_aload_n C 2 dL_law_800 rfl ?_
  refine VL_aload_n C 0 dL_law_801 rfl ?_
  refine VL_iload_n C 3 dL_law_802 rfl ?_
  refine VL_iconst (v := 1) C dL_law_803 (by decide) ?_
  refine VL_iadd C dL_law_804 ?_
  refine VL_sld C dL_law_805 g1 ?_
  refine VL_callMi (rest := [.int r0]) C (c_X12_count l D cy am (AM am) C.2.2.2.1 (xs (v3 + 1).toNatClampNeg) MM _ h) (cwV 1 C.1.2.2.2.2 gL_law_X12_count rfl rfl rfl (by decide +kernel) ⟨by decide, by decide⟩) rfl rfl (Nat.le_of_ble_eq_true rfl) dL_law_806 hcs (fun r1 M1 h => ?_)
  obtain ⟨h1, h2⟩ := h
  refine VL_icmp_eq C 828 dL_law_809 (by decide) (fun _ => ?_) (fun q => absurd h1 q)
  exact next _ _ h2
set_option maxHeartbeats 4000000 in
set_option maxRecDepth 100000 in
theorem law_c23 {p : Program} {l : Launch} {e : Env} {s : State} {m : MethodId} {below : List Frame} {meth : Method} {c : Code} {b L : Nat} {xs : Nat → Int32} {Q : State → Prop} {D : va_G} {cy : Nat → ClassId} {ax am : Nat → Nat} {cells slots : Nat} (C : LCx p s m c b L xs D cy ax am) (hcs : cells + 0 ≤ room_1.cells ∧ slots + 0 ≤ room_1.slots) {Rel : Nat → Mm → Mm → Prop} (S : Sims Rel) {k : Nat} (hk : k < 512) {MX MM : Mm} (hR : Rel k MX MM) {v3 : Int32}  (next : ∀ MX1 MM1 : Mm, Rel (k + 1) MX1 MM1 → VL p l e s m below meth c b Q D cy ax am cells slots MX1 MM1 [(0, .ref b), (1, .ref (ax 0)), (2, .ref (am 0)), (3, .int v3)] 828 []) : VL p l e s m below meth c b Q D cy ax am cells slots MX MM [(0, .ref b), (1, .ref (ax 0)), (2, .ref (am 0)), (3, .int v3)] 814 [] := by
  have h := S.2.2.2.2.2.2.2.2.2.2.2.2.2.2.2.2.2.2.2.2.2.2.2.2 k MX MM  hk hR
  refine VL_aload_n C 1 dL_law_814 rfl ?_
  refine VL_callXl (rest := []) C (c_X11_digest l D cy ax (AX ax) C.2.2.1  MX _ h) (cwV 0 C.1.2.2.2.2 gL_law_X11_digest rfl rfl rfl (by decide +kernel) ⟨by decide, by decide⟩) rfl rfl (Nat.le_of_ble_eq_true rfl) dL_law_815 hcs (fun r0 M0 h => ?_)
  refine VL_aload_n C 2 dL_law_818 rfl ?_
  refine VL_callMl (rest := [.long r0]) C (c_X12_digest l D cy am (AM am) C.2.2.2.1  MM _ h) (cwV 0 C.1.2.2.2.2 gL_law_X12_digest rfl rfl rfl (by decide +kernel) ⟨by decide, by decide⟩) rfl rfl (Nat.le_of_ble_eq_true rfl) dL_law_819 hcs (fun r1 M1 h => ?_)
  refine VL_lcmp C dL_law_822 ?_
  obtain ⟨h1, h2⟩ := h
  refine VL_if_eq C 828 dL_law_823 (by decide) (fun _ => ?_) (fun q => absurd (by rw [h1]; exact lg_cmp_self _) q)
  exact next _ _ h2
