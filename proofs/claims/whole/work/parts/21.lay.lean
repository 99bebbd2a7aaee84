theorem kd_0 : kd 0 = 7 := rfl
theorem kd_1 : kd 1 = 14 := rfl
theorem ln_1 : ln 1 = 8 := rfl
theorem kd_2 : kd 2 = 12 := rfl
theorem ln_2 : ln 2 = 10 := rfl
theorem kd_3 : kd 3 = 13 := rfl
theorem ln_3 : ln 3 = 10 := rfl
theorem kd_4 : kd 4 = 5 := rfl
theorem kd_5 : kd 5 = 9 := rfl
theorem ln_5 : ln 5 = 80 := rfl
theorem kd_6 : kd 6 = 2 := rfl
theorem kd_7 : kd 7 = 9 := rfl
theorem ln_7 : ln 7 = 48 := rfl
theorem kd_8 : kd 8 = 1 := rfl
theorem kd_9 : kd 9 = 9 := rfl
theorem ln_9 : ln 9 = 8 := rfl
theorem kd_10 : kd 10 = 9 := rfl
theorem ln_10 : ln 10 = 8 := rfl
theorem kd_11 : kd 11 = 1 := rfl
theorem kd_12 : kd 12 = 9 := rfl
theorem ln_12 : ln 12 = 8 := rfl
theorem kd_13 : kd 13 = 9 := rfl
theorem ln_13 : ln 13 = 8 := rfl
theorem kd_14 : kd 14 = 9 := rfl
theorem ln_14 : ln 14 = 10 := rfl
theorem kd_15 : kd 15 = 9 := rfl
theorem ln_15 : ln 15 = 5 := rfl
theorem kd_16 : kd 16 = 9 := rfl
theorem ln_16 : ln 16 = 9 := rfl
theorem kd_600 : kd 600 = 8 := rfl
theorem kd_609 : kd 609 = 9 := rfl
theorem ln_609 : ln 609 = 8 := rfl
theorem kd_610 : kd 610 = 9 := rfl
theorem ln_610 : ln 610 = 8 := rfl
theorem kd_611 : kd 611 = 9 := rfl
theorem ln_611 : ln 611 = 8 := rfl
theorem kd_612 : kd 612 = 9 := rfl
theorem ln_612 : ln 612 = 8 := rfl
theorem kd_613 : kd 613 = 9 := rfl
theorem ln_613 : ln 613 = 8 := rfl
theorem kd_614 : kd 614 = 9 := rfl
theorem ln_614 : ln 614 = 8 := rfl
theorem kd_615 : kd 615 = 9 := rfl
theorem ln_615 : ln 615 = 384 := rfl
theorem kd_616 : kd 616 = 9 := rfl
theorem ln_616 : ln 616 = 10 := rfl
theorem kd_617 : kd 617 = 9 := rfl
theorem ln_617 : ln 617 = 11 := rfl
theorem kd_618 : kd 618 = 9 := rfl
theorem ln_618 : ln 618 = 11 := rfl
theorem kd_619 : kd 619 = 9 := rfl
theorem ln_619 : ln 619 = 11 := rfl
theorem kd_620 : kd 620 = 9 := rfl
theorem ln_620 : ln 620 = 11 := rfl
theorem kd_621 : kd 621 = 9 := rfl
theorem ln_621 : ln 621 = 11 := rfl
theorem kd_622 : kd 622 = 9 := rfl
theorem ln_622 : ln 622 = 11 := rfl
theorem kd_623 : kd 623 = 9 := rfl
theorem ln_623 : ln 623 = 11 := rfl
theorem kd_624 : kd 624 = 9 := rfl
theorem ln_624 : ln 624 = 11 := rfl
theorem kd_625 : kd 625 = 9 := rfl
theorem ln_625 : ln 625 = 11 := rfl
theorem kd_626 : kd 626 = 9 := rfl
theorem ln_626 : ln 626 = 11 := rfl
theorem kd_627 : kd 627 = 10 := rfl
theorem ln_627 : ln 627 = 11 := rfl
theorem kd_628 : kd 628 = 10 := rfl
theorem ln_628 : ln 628 = 11 := rfl
theorem kd_629 : kd 629 = 9 := rfl
theorem ln_629 : ln 629 = 33 := rfl
theorem kd_630 : kd 630 = 9 := rfl
theorem ln_630 : ln 630 = 44 := rfl
theorem kd_631 : kd 631 = 9 := rfl
theorem ln_631 : ln 631 = 44 := rfl
theorem kd_632 : kd 632 = 9 := rfl
theorem ln_632 : ln 632 = 44 := rfl
theorem kd_633 : kd 633 = 9 := rfl
theorem ln_633 : ln 633 = 44 := rfl
theorem kd_634 : kd 634 = 9 := rfl
theorem ln_634 : ln 634 = 44 := rfl
theorem kd_635 : kd 635 = 9 := rfl
theorem ln_635 : ln 635 = 44 := rfl
theorem kd_636 : kd 636 = 9 := rfl
theorem ln_636 : ln 636 = 256 := rfl
theorem kd_637 : kd 637 = 9 := rfl
theorem ln_637 : ln 637 = 256 := rfl
theorem kd_639 : kd 639 = 9 := rfl
theorem ln_639 : ln 639 = 10 := rfl
theorem kd_640 : kd 640 = 9 := rfl
theorem ln_640 : ln 640 = 10 := rfl
theorem kd_641 : kd 641 = 9 := rfl
theorem ln_641 : ln 641 = 10 := rfl
theorem kd_642 : kd 642 = 9 := rfl
theorem ln_642 : ln 642 = 10 := rfl
theorem kd_643 : kd 643 = 9 := rfl
theorem ln_643 : ln 643 = 10 := rfl
theorem kd_644 : kd 644 = 9 := rfl
theorem ln_644 : ln 644 = 30 := rfl
theorem kd_645 : kd 645 = 9 := rfl
theorem ln_645 : ln 645 = 30 := rfl
theorem kd_646 : kd 646 = 9 := rfl
theorem ln_646 : ln 646 = 30 := rfl
theorem kd_647 : kd 647 = 9 := rfl
theorem ln_647 : ln 647 = 80 := rfl
theorem kd_648 : kd 648 = 9 := rfl
theorem ln_648 : ln 648 = 48 := rfl
theorem kd_649 : kd 649 = 9 := rfl
theorem ln_649 : ln 649 = 48 := rfl
theorem kd_650 : kd 650 = 9 := rfl
theorem ln_650 : ln 650 = 9 := rfl
theorem kd_654 : kd 654 = 9 := rfl
theorem ln_654 : ln 654 = 8 := rfl
theorem kd_sI0_ : ∀ s, s < 8 → kd (sI s 0) = 4 := by decide +kernel
theorem kd_sI0 {s : Nat} (h : s < 8) : kd (sI s 0) = 4 := kd_sI0_ s h
theorem kd_sI1_ : ∀ s, s < 8 → kd (sI s 1) = 9 := by decide +kernel
theorem kd_sI1 {s : Nat} (h : s < 8) : kd (sI s 1) = 9 := kd_sI1_ s h
theorem ln_sI1_ : ∀ s, s < 8 → ln (sI s 1) = 48 := by decide +kernel
theorem ln_sI1 {s : Nat} (h : s < 8) : ln (sI s 1) = 48 := ln_sI1_ s h
theorem kd_sI2_ : ∀ s, s < 8 → kd (sI s 2) = 9 := by decide +kernel
theorem kd_sI2 {s : Nat} (h : s < 8) : kd (sI s 2) = 9 := kd_sI2_ s h
theorem ln_sI2_ : ∀ s, s < 8 → ln (sI s 2) = 48 := by decide +kernel
theorem ln_sI2 {s : Nat} (h : s < 8) : ln (sI s 2) = 48 := ln_sI2_ s h
theorem kd_sI3_ : ∀ s, s < 8 → kd (sI s 3) = 9 := by decide +kernel
theorem kd_sI3 {s : Nat} (h : s < 8) : kd (sI s 3) = 9 := kd_sI3_ s h
theorem ln_sI3_ : ∀ s, s < 8 → ln (sI s 3) = 24 := by decide +kernel
theorem ln_sI3 {s : Nat} (h : s < 8) : ln (sI s 3) = 24 := ln_sI3_ s h
theorem kd_sI4_ : ∀ s, s < 8 → kd (sI s 4) = 9 := by decide +kernel
theorem kd_sI4 {s : Nat} (h : s < 8) : kd (sI s 4) = 9 := kd_sI4_ s h
theorem ln_sI4_ : ∀ s, s < 8 → ln (sI s 4) = 24 := by decide +kernel
theorem ln_sI4 {s : Nat} (h : s < 8) : ln (sI s 4) = 24 := ln_sI4_ s h
theorem kd_cI0_ : ∀ c, c < 11 → kd (cI c 0) = 0 := by decide +kernel
theorem kd_cI0 {c : Nat} (h : c < 11) : kd (cI c 0) = 0 := kd_cI0_ c h
theorem kd_cI1_ : ∀ c, c < 11 → kd (cI c 1) = 11 := by decide +kernel
theorem kd_cI1 {c : Nat} (h : c < 11) : kd (cI c 1) = 11 := kd_cI1_ c h
theorem ln_cI1_ : ∀ c, c < 11 → ln (cI c 1) = 4 := by decide +kernel
theorem ln_cI1 {c : Nat} (h : c < 11) : ln (cI c 1) = 4 := ln_cI1_ c h
theorem kd_cI2_ : ∀ c, c < 11 → kd (cI c 2) = 9 := by decide +kernel
theorem kd_cI2 {c : Nat} (h : c < 11) : kd (cI c 2) = 9 := kd_cI2_ c h
theorem ln_cI2_ : ∀ c, c < 11 → ln (cI c 2) = 3 := by decide +kernel
theorem ln_cI2 {c : Nat} (h : c < 11) : ln (cI c 2) = 3 := ln_cI2_ c h
theorem kd_cI3_ : ∀ c, c < 11 → kd (cI c 3) = 6 := by decide +kernel
theorem kd_cI3 {c : Nat} (h : c < 11) : kd (cI c 3) = 6 := kd_cI3_ c h
theorem kd_cI4_ : ∀ c, c < 11 → kd (cI c 4) = 6 := by decide +kernel
theorem kd_cI4 {c : Nat} (h : c < 11) : kd (cI c 4) = 6 := kd_cI4_ c h
theorem kd_cI5_ : ∀ c, c < 11 → kd (cI c 5) = 6 := by decide +kernel
theorem kd_cI5 {c : Nat} (h : c < 11) : kd (cI c 5) = 6 := kd_cI5_ c h
theorem kd_cI6_ : ∀ c, c < 11 → kd (cI c 6) = 6 := by decide +kernel
theorem kd_cI6 {c : Nat} (h : c < 11) : kd (cI c 6) = 6 := kd_cI6_ c h
theorem kd_rI0_ : ∀ r, r < 10 → kd (rI r 0) = 3 := by decide +kernel
theorem kd_rI0 {r : Nat} (h : r < 10) : kd (rI r 0) = 3 := kd_rI0_ r h
theorem kd_rI1_ : ∀ r, r < 10 → kd (rI r 1) = 9 := by decide +kernel
theorem kd_rI1 {r : Nat} (h : r < 10) : kd (rI r 1) = 9 := kd_rI1_ r h
theorem ln_rI1_ : ∀ r, r < 10 → ln (rI r 1) = 3 := by decide +kernel
theorem ln_rI1 {r : Nat} (h : r < 10) : ln (rI r 1) = 3 := ln_rI1_ r h
theorem kd_rI2_ : ∀ r, r < 10 → kd (rI r 2) = 9 := by decide +kernel
theorem kd_rI2 {r : Nat} (h : r < 10) : kd (rI r 2) = 9 := kd_rI2_ r h
theorem ln_rI2_ : ∀ r, r < 10 → ln (rI r 2) = 3 := by decide +kernel
theorem ln_rI2 {r : Nat} (h : r < 10) : ln (rI r 2) = 3 := ln_rI2_ r h
theorem kd_rI3_ : ∀ r, r < 10 → kd (rI r 3) = 9 := by decide +kernel
theorem kd_rI3 {r : Nat} (h : r < 10) : kd (rI r 3) = 9 := kd_rI3_ r h
theorem ln_rI3_ : ∀ r, r < 10 → ln (rI r 3) = 3 := by decide +kernel
theorem ln_rI3 {r : Nat} (h : r < 10) : ln (rI r 3) = 3 := ln_rI3_ r h
theorem rf_1_ : ∀ s, s < 8 → rf 1 s = some (sI s 0) := by decide +kernel
theorem rf_1 {s : Nat} (h : s < 8) : rf 1 s = some (sI s 0) := rf_1_ s h
theorem rf_2_ : ∀ c, c < 10 → rf 2 c = some (cI c 0) := by decide +kernel
theorem rf_2 {c : Nat} (h : c < 10) : rf 2 c = some (cI c 0) := rf_2_ c h
theorem rf_3_ : ∀ r, r < 10 → rf 3 r = some (rI r 0) := by decide +kernel
theorem rf_3 {r : Nat} (h : r < 10) : rf 3 r = some (rI r 0) := rf_3_ r h
theorem rf_ct_ : ∀ c, c < 11 → ∀ t, t < 4 → rf (cI c 1) t = some (cI c (3 + t)) := by decide +kernel
theorem rf_ct {c t : Nat} (h : c < 11) (ht : t < 4) : rf (cI c 1) t = some (cI c (3 + t)) := rf_ct_ c h t ht
theorem vl_0_0 {h : Hp} : vl h (0) 0 = .ref (1) := rfl
theorem vl_0_1 {h : Hp} : vl h (0) 1 = .ref (2) := rfl
theorem vl_0_2 {h : Hp} : vl h (0) 2 = .ref (3) := rfl
theorem vl_0_3 {h : Hp} : vl h (0) 3 = .ref (4) := rfl
theorem vl_0_4 {h : Hp} : vl h (0) 4 = .ref (6) := rfl
theorem vl_0_5 {h : Hp} : vl h (0) 5 = .ref (8) := rfl
theorem vl_0_6 {h : Hp} : vl h (0) 6 = .ref (14) := rfl
theorem vl_0_7 {h : Hp} : vl h (0) 7 = .ref (15) := rfl
theorem vl_0_8 {h : Hp} : vl h (0) 8 = .ref (16) := rfl
theorem vl_0_9 {h : Hp} : vl h (0) 9 = .ref (cI 10 0) := rfl
theorem vl_0_10 {h : Hp} : vl h (0) 10 = .ref (11) := rfl
theorem vl_0_11 {h : Hp} : vl h (0) 11 = .int (h (0) 11) := rfl
theorem vl_0_12 {h : Hp} : vl h (0) 12 = .int (h (0) 12) := rfl
theorem vl_0_13 {h : Hp} : vl h (0) 13 = .int (h (0) 13) := rfl
theorem vl_0_14 {h : Hp} : vl h (0) 14 = .int (h (0) 14) := rfl
theorem vl_0_15 {h : Hp} : vl h (0) 15 = .int (h (0) 15) := rfl
theorem vl_0_16 {h : Hp} : vl h (0) 16 = .int (h (0) 16) := rfl
theorem vl_4_0 {h : Hp} : vl h (4) 0 = .ref (5) := rfl
theorem vl_4_1 {h : Hp} : vl h (4) 1 = .int (h (4) 1) := rfl
theorem vl_4_2 {h : Hp} : vl h (4) 2 = .int (h (4) 2) := rfl
theorem vl_6_0 {h : Hp} : vl h (6) 0 = .ref (7) := rfl
theorem vl_6_1 {h : Hp} : vl h (6) 1 = .int (h (6) 1) := rfl
theorem vl_8_0 {h : Hp} : vl h (8) 0 = .ref (9) := rfl
theorem vl_8_1 {h : Hp} : vl h (8) 1 = .ref (10) := rfl
theorem vl_8_2 {h : Hp} : vl h (8) 2 = .int (h (8) 2) := rfl
theorem vl_8_3 {h : Hp} : vl h (8) 3 = .int (h (8) 3) := rfl
theorem vl_11_0 {h : Hp} : vl h (11) 0 = .ref (12) := rfl
theorem vl_11_1 {h : Hp} : vl h (11) 1 = .ref (13) := rfl
theorem vl_11_2 {h : Hp} : vl h (11) 2 = .int (h (11) 2) := rfl
theorem vl_11_3 {h : Hp} : vl h (11) 3 = .int (h (11) 3) := rfl
theorem vl_600_0 {h : Hp} : vl h (600) 0 = .int (h (600) 0) := rfl
theorem vl_600_1 {h : Hp} : vl h (600) 1 = .int (h (600) 1) := rfl
theorem vl_600_2 {h : Hp} : vl h (600) 2 = .int (h (600) 2) := rfl
theorem vl_600_3 {h : Hp} : vl h (600) 3 = .int (h (600) 3) := rfl
theorem vl_600_4 {h : Hp} : vl h (600) 4 = .int (h (600) 4) := rfl
theorem vl_600_5 {h : Hp} : vl h (600) 5 = .int (h (600) 5) := rfl
theorem vl_600_6 {h : Hp} : vl h (600) 6 = .int (h (600) 6) := rfl
theorem vl_600_7 {h : Hp} : vl h (600) 7 = .int (h (600) 7) := rfl
theorem vl_600_8 {h : Hp} : vl h (600) 8 = .int (h (600) 8) := rfl
theorem vl_600_9 {h : Hp} : vl h (600) 9 = .ref (609) := rfl
theorem vl_600_10 {h : Hp} : vl h (600) 10 = .ref (610) := rfl
theorem vl_600_11 {h : Hp} : vl h (600) 11 = .ref (611) := rfl
theorem vl_600_12 {h : Hp} : vl h (600) 12 = .ref (612) := rfl
theorem vl_600_13 {h : Hp} : vl h (600) 13 = .ref (613) := rfl
theorem vl_600_14 {h : Hp} : vl h (600) 14 = .ref (614) := rfl
theorem vl_600_15 {h : Hp} : vl h (600) 15 = .ref (615) := rfl
theorem vl_600_16 {h : Hp} : vl h (600) 16 = .ref (616) := rfl
theorem vl_600_17 {h : Hp} : vl h (600) 17 = .ref (617) := rfl
theorem vl_600_18 {h : Hp} : vl h (600) 18 = .ref (618) := rfl
theorem vl_600_19 {h : Hp} : vl h (600) 19 = .ref (619) := rfl
theorem vl_600_20 {h : Hp} : vl h (600) 20 = .ref (620) := rfl
theorem vl_600_21 {h : Hp} : vl h (600) 21 = .ref (621) := rfl
theorem vl_600_22 {h : Hp} : vl h (600) 22 = .ref (622) := rfl
theorem vl_600_23 {h : Hp} : vl h (600) 23 = .ref (623) := rfl
theorem vl_600_24 {h : Hp} : vl h (600) 24 = .ref (624) := rfl
theorem vl_600_25 {h : Hp} : vl h (600) 25 = .ref (625) := rfl
theorem vl_600_26 {h : Hp} : vl h (600) 26 = .ref (626) := rfl
theorem vl_600_27 {h : Hp} : vl h (600) 27 = .ref (627) := rfl
theorem vl_600_28 {h : Hp} : vl h (600) 28 = .ref (628) := rfl
theorem vl_600_29 {h : Hp} : vl h (600) 29 = .ref (629) := rfl
theorem vl_600_30 {h : Hp} : vl h (600) 30 = .ref (630) := rfl
theorem vl_600_31 {h : Hp} : vl h (600) 31 = .ref (631) := rfl
theorem vl_600_32 {h : Hp} : vl h (600) 32 = .ref (632) := rfl
theorem vl_600_33 {h : Hp} : vl h (600) 33 = .ref (633) := rfl
theorem vl_600_34 {h : Hp} : vl h (600) 34 = .ref (634) := rfl
theorem vl_600_35 {h : Hp} : vl h (600) 35 = .ref (635) := rfl
theorem vl_600_36 {h : Hp} : vl h (600) 36 = .ref (636) := rfl
theorem vl_600_37 {h : Hp} : vl h (600) 37 = .ref (637) := rfl
theorem vl_600_38 {h : Hp} : vl h (600) 38 = .int (h (600) 38) := rfl
theorem vl_600_39 {h : Hp} : vl h (600) 39 = .ref (639) := rfl
theorem vl_600_40 {h : Hp} : vl h (600) 40 = .ref (640) := rfl
theorem vl_600_41 {h : Hp} : vl h (600) 41 = .ref (641) := rfl
theorem vl_600_42 {h : Hp} : vl h (600) 42 = .ref (642) := rfl
theorem vl_600_43 {h : Hp} : vl h (600) 43 = .ref (643) := rfl
theorem vl_600_44 {h : Hp} : vl h (600) 44 = .ref (644) := rfl
theorem vl_600_45 {h : Hp} : vl h (600) 45 = .ref (645) := rfl
theorem vl_600_46 {h : Hp} : vl h (600) 46 = .ref (646) := rfl
theorem vl_600_47 {h : Hp} : vl h (600) 47 = .ref (647) := rfl
theorem vl_600_48 {h : Hp} : vl h (600) 48 = .ref (648) := rfl
theorem vl_600_49 {h : Hp} : vl h (600) 49 = .ref (649) := rfl
theorem vl_600_50 {h : Hp} : vl h (600) 50 = .ref (650) := rfl
theorem vl_600_51 {h : Hp} : vl h (600) 51 = .int (h (600) 51) := rfl
theorem vl_600_52 {h : Hp} : vl h (600) 52 = .int (h (600) 52) := rfl
theorem vl_600_53 {h : Hp} : vl h (600) 53 = .int (h (600) 53) := rfl
theorem vl_600_54 {h : Hp} : vl h (600) 54 = .ref (654) := rfl
theorem rf_sI_0_ : ∀ s, s < 8 → rf (sI s 0) 0 = some (sI s 1) := by decide +kernel
theorem vl_sI_0 {h : Hp} {s : Nat} (hb : s < 8) : vl h (sI s 0) 0 = .ref (sI s 1) := by unfold vl; rw [rf_sI_0_ s hb]
theorem rf_sI_1_ : ∀ s, s < 8 → rf (sI s 0) 1 = some (sI s 2) := by decide +kernel
theorem vl_sI_1 {h : Hp} {s : Nat} (hb : s < 8) : vl h (sI s 0) 1 = .ref (sI s 2) := by unfold vl; rw [rf_sI_1_ s hb]
theorem rf_sI_2_ : ∀ s, s < 8 → rf (sI s 0) 2 = some (sI s 3) := by decide +kernel
theorem vl_sI_2 {h : Hp} {s : Nat} (hb : s < 8) : vl h (sI s 0) 2 = .ref (sI s 3) := by unfold vl; rw [rf_sI_2_ s hb]
theorem rf_sI_3_ : ∀ s, s < 8 → rf (sI s 0) 3 = some (sI s 4) := by decide +kernel
theorem vl_sI_3 {h : Hp} {s : Nat} (hb : s < 8) : vl h (sI s 0) 3 = .ref (sI s 4) := by unfold vl; rw [rf_sI_3_ s hb]
theorem rf_sI_4_ : ∀ s, s < 8 → rf (sI s 0) 4 = none := by decide +kernel
theorem vl_sI_4 {h : Hp} {s : Nat} (hb : s < 8) : vl h (sI s 0) 4 = .int (h (sI s 0) 4) := by unfold vl; rw [rf_sI_4_ s hb]
theorem rf_sI_5_ : ∀ s, s < 8 → rf (sI s 0) 5 = none := by decide +kernel
theorem vl_sI_5 {h : Hp} {s : Nat} (hb : s < 8) : vl h (sI s 0) 5 = .int (h (sI s 0) 5) := by unfold vl; rw [rf_sI_5_ s hb]
theorem rf_sI_6_ : ∀ s, s < 8 → rf (sI s 0) 6 = none := by decide +kernel
theorem vl_sI_6 {h : Hp} {s : Nat} (hb : s < 8) : vl h (sI s 0) 6 = .int (h (sI s 0) 6) := by unfold vl; rw [rf_sI_6_ s hb]
theorem rf_sI_7_ : ∀ s, s < 8 → rf (sI s 0) 7 = none := by decide +kernel
theorem vl_sI_7 {h : Hp} {s : Nat} (hb : s < 8) : vl h (sI s 0) 7 = .int (h (sI s 0) 7) := by unfold vl; rw [rf_sI_7_ s hb]
theorem rf_cI_0_ : ∀ c, c < 11 → rf (cI c 0) 0 = some (cI c 1) := by decide +kernel
theorem vl_cI_0 {h : Hp} {c : Nat} (hb : c < 11) : vl h (cI c 0) 0 = .ref (cI c 1) := by unfold vl; rw [rf_cI_0_ c hb]
theorem rf_cI_1_ : ∀ c, c < 11 → rf (cI c 0) 1 = some (cI c 2) := by decide +kernel
theorem vl_cI_1 {h : Hp} {c : Nat} (hb : c < 11) : vl h (cI c 0) 1 = .ref (cI c 2) := by unfold vl; rw [rf_cI_1_ c hb]
theorem rf_cI_2_ : ∀ c, c < 11 → rf (cI c 0) 2 = none := by decide +kernel
theorem vl_cI_2 {h : Hp} {c : Nat} (hb : c < 11) : vl h (cI c 0) 2 = .int (h (cI c 0) 2) := by unfold vl; rw [rf_cI_2_ c hb]
theorem rf_cI_3_ : ∀ c, c < 11 → rf (cI c 0) 3 = none := by decide +kernel
theorem vl_cI_3 {h : Hp} {c : Nat} (hb : c < 11) : vl h (cI c 0) 3 = .int (h (cI c 0) 3) := by unfold vl; rw [rf_cI_3_ c hb]
theorem rf_cI_4_ : ∀ c, c < 11 → rf (cI c 0) 4 = none := by decide +kernel
theorem vl_cI_4 {h : Hp} {c : Nat} (hb : c < 11) : vl h (cI c 0) 4 = .int (h (cI c 0) 4) := by unfold vl; rw [rf_cI_4_ c hb]
theorem rf_cI_5_ : ∀ c, c < 11 → rf (cI c 0) 5 = none := by decide +kernel
theorem vl_cI_5 {h : Hp} {c : Nat} (hb : c < 11) : vl h (cI c 0) 5 = .int (h (cI c 0) 5) := by unfold vl; rw [rf_cI_5_ c hb]
theorem rf_cI_6_ : ∀ c, c < 11 → rf (cI c 0) 6 = none := by decide +kernel
theorem vl_cI_6 {h : Hp} {c : Nat} (hb : c < 11) : vl h (cI c 0) 6 = .int (h (cI c 0) 6) := by unfold vl; rw [rf_cI_6_ c hb]
theorem rf_cI_7_ : ∀ c, c < 11 → rf (cI c 0) 7 = none := by decide +kernel
theorem vl_cI_7 {h : Hp} {c : Nat} (hb : c < 11) : vl h (cI c 0) 7 = .int (h (cI c 0) 7) := by unfold vl; rw [rf_cI_7_ c hb]
theorem rf_cI_8_ : ∀ c, c < 11 → rf (cI c 0) 8 = none := by decide +kernel
theorem vl_cI_8 {h : Hp} {c : Nat} (hb : c < 11) : vl h (cI c 0) 8 = .int (h (cI c 0) 8) := by unfold vl; rw [rf_cI_8_ c hb]
theorem rf_cI_9_ : ∀ c, c < 11 → rf (cI c 0) 9 = none := by decide +kernel
theorem vl_cI_9 {h : Hp} {c : Nat} (hb : c < 11) : vl h (cI c 0) 9 = .int (h (cI c 0) 9) := by unfold vl; rw [rf_cI_9_ c hb]
theorem rf_cI_10_ : ∀ c, c < 11 → rf (cI c 0) 10 = none := by decide +kernel
theorem vl_cI_10 {h : Hp} {c : Nat} (hb : c < 11) : vl h (cI c 0) 10 = .int (h (cI c 0) 10) := by unfold vl; rw [rf_cI_10_ c hb]
theorem rf_cI_11_ : ∀ c, c < 11 → rf (cI c 0) 11 = none := by decide +kernel
theorem vl_cI_11 {h : Hp} {c : Nat} (hb : c < 11) : vl h (cI c 0) 11 = .int (h (cI c 0) 11) := by unfold vl; rw [rf_cI_11_ c hb]
theorem rf_cI_12_ : ∀ c, c < 11 → rf (cI c 0) 12 = none := by decide +kernel
theorem vl_cI_12 {h : Hp} {c : Nat} (hb : c < 11) : vl h (cI c 0) 12 = .int (h (cI c 0) 12) := by unfold vl; rw [rf_cI_12_ c hb]
theorem rf_cI_13_ : ∀ c, c < 11 → rf (cI c 0) 13 = none := by decide +kernel
theorem vl_cI_13 {h : Hp} {c : Nat} (hb : c < 11) : vl h (cI c 0) 13 = .int (h (cI c 0) 13) := by unfold vl; rw [rf_cI_13_ c hb]
theorem rf_rI_0_ : ∀ r, r < 10 → rf (rI r 0) 0 = some (rI r 1) := by decide +kernel
theorem vl_rI_0 {h : Hp} {r : Nat} (hb : r < 10) : vl h (rI r 0) 0 = .ref (rI r 1) := by unfold vl; rw [rf_rI_0_ r hb]
theorem rf_rI_1_ : ∀ r, r < 10 → rf (rI r 0) 1 = some (rI r 2) := by decide +kernel
theorem vl_rI_1 {h : Hp} {r : Nat} (hb : r < 10) : vl h (rI r 0) 1 = .ref (rI r 2) := by unfold vl; rw [rf_rI_1_ r hb]
theorem rf_rI_2_ : ∀ r, r < 10 → rf (rI r 0) 2 = some (rI r 3) := by decide +kernel
theorem vl_rI_2 {h : Hp} {r : Nat} (hb : r < 10) : vl h (rI r 0) 2 = .ref (rI r 3) := by unfold vl; rw [rf_rI_2_ r hb]
theorem rf_rI_3_ : ∀ r, r < 10 → rf (rI r 0) 3 = none := by decide +kernel
theorem vl_rI_3 {h : Hp} {r : Nat} (hb : r < 10) : vl h (rI r 0) 3 = .int (h (rI r 0) 3) := by unfold vl; rw [rf_rI_3_ r hb]
theorem rf_rI_4_ : ∀ r, r < 10 → rf (rI r 0) 4 = none := by decide +kernel
theorem vl_rI_4 {h : Hp} {r : Nat} (hb : r < 10) : vl h (rI r 0) 4 = .int (h (rI r 0) 4) := by unfold vl; rw [rf_rI_4_ r hb]
theorem rf_rI_5_ : ∀ r, r < 10 → rf (rI r 0) 5 = none := by decide +kernel
theorem vl_rI_5 {h : Hp} {r : Nat} (hb : r < 10) : vl h (rI r 0) 5 = .int (h (rI r 0) 5) := by unfold vl; rw [rf_rI_5_ r hb]
theorem rf_rI_6_ : ∀ r, r < 10 → rf (rI r 0) 6 = none := by decide +kernel
theorem vl_rI_6 {h : Hp} {r : Nat} (hb : r < 10) : vl h (rI r 0) 6 = .int (h (rI r 0) 6) := by unfold vl; rw [rf_rI_6_ r hb]
theorem rf_rI_7_ : ∀ r, r < 10 → rf (rI r 0) 7 = none := by decide +kernel
theorem vl_rI_7 {h : Hp} {r : Nat} (hb : r < 10) : vl h (rI r 0) 7 = .int (h (rI r 0) 7) := by unfold vl; rw [rf_rI_7_ r hb]
theorem rf_tr_ : ∀ c, c < 11 → ∀ t, t < 4 → ∀ j, j < 6 → rf (cI c (3 + t)) j = none := by decide +kernel
theorem vl_tr_0 {h : Hp} {c t : Nat} (hc : c < 11) (ht : t < 4) : vl h (cI c (3 + t)) 0 = .int (h (cI c (3 + t)) 0) := by unfold vl; rw [rf_tr_ c hc t ht 0 (by decide)]
theorem vl_tr0_0 {h : Hp} {c : Nat} (hc : c < 11) : vl h (cI c 3) 0 = .int (h (cI c 3) 0) := vl_tr_0 (t := 0) hc (by decide)
theorem vl_tr1_0 {h : Hp} {c : Nat} (hc : c < 11) : vl h (cI c 4) 0 = .int (h (cI c 4) 0) := vl_tr_0 (t := 1) hc (by decide)
theorem vl_tr2_0 {h : Hp} {c : Nat} (hc : c < 11) : vl h (cI c 5) 0 = .int (h (cI c 5) 0) := vl_tr_0 (t := 2) hc (by decide)
theorem vl_tr3_0 {h : Hp} {c : Nat} (hc : c < 11) : vl h (cI c 6) 0 = .int (h (cI c 6) 0) := vl_tr_0 (t := 3) hc (by decide)
theorem vl_tr_1 {h : Hp} {c t : Nat} (hc : c < 11) (ht : t < 4) : vl h (cI c (3 + t)) 1 = .int (h (cI c (3 + t)) 1) := by unfold vl; rw [rf_tr_ c hc t ht 1 (by decide)]
theorem vl_tr0_1 {h : Hp} {c : Nat} (hc : c < 11) : vl h (cI c 3) 1 = .int (h (cI c 3) 1) := vl_tr_1 (t := 0) hc (by decide)
theorem vl_tr1_1 {h : Hp} {c : Nat} (hc : c < 11) : vl h (cI c 4) 1 = .int (h (cI c 4) 1) := vl_tr_1 (t := 1) hc (by decide)
theorem vl_tr2_1 {h : Hp} {c : Nat} (hc : c < 11) : vl h (cI c 5) 1 = .int (h (cI c 5) 1) := vl_tr_1 (t := 2) hc (by decide)
theorem vl_tr3_1 {h : Hp} {c : Nat} (hc : c < 11) : vl h (cI c 6) 1 = .int (h (cI c 6) 1) := vl_tr_1 (t := 3) hc (by decide)
theorem vl_tr_2 {h : Hp} {c t : Nat} (hc : c < 11) (ht : t < 4) : vl h (cI c (3 + t)) 2 = .int (h (cI c (3 + t)) 2) := by unfold vl; rw [rf_tr_ c hc t ht 2 (by decide)]
theorem vl_tr0_2 {h : Hp} {c : Nat} (hc : c < 11) : vl h (cI c 3) 2 = .int (h (cI c 3) 2) := vl_tr_2 (t := 0) hc (by decide)
theorem vl_tr1_2 {h : Hp} {c : Nat} (hc : c < 11) : vl h (cI c 4) 2 = .int (h (cI c 4) 2) := vl_tr_2 (t := 1) hc (by decide)
theorem vl_tr2_2 {h : Hp} {c : Nat} (hc : c < 11) : vl h (cI c 5) 2 = .int (h (cI c 5) 2) := vl_tr_2 (t := 2) hc (by decide)
theorem vl_tr3_2 {h : Hp} {c : Nat} (hc : c < 11) : vl h (cI c 6) 2 = .int (h (cI c 6) 2) := vl_tr_2 (t := 3) hc (by decide)
theorem vl_tr_3 {h : Hp} {c t : Nat} (hc : c < 11) (ht : t < 4) : vl h (cI c (3 + t)) 3 = .int (h (cI c (3 + t)) 3) := by unfold vl; rw [rf_tr_ c hc t ht 3 (by decide)]
theorem vl_tr0_3 {h : Hp} {c : Nat} (hc : c < 11) : vl h (cI c 3) 3 = .int (h (cI c 3) 3) := vl_tr_3 (t := 0) hc (by decide)
theorem vl_tr1_3 {h : Hp} {c : Nat} (hc : c < 11) : vl h (cI c 4) 3 = .int (h (cI c 4) 3) := vl_tr_3 (t := 1) hc (by decide)
theorem vl_tr2_3 {h : Hp} {c : Nat} (hc : c < 11) : vl h (cI c 5) 3 = .int (h (cI c 5) 3) := vl_tr_3 (t := 2) hc (by decide)
theorem vl_tr3_3 {h : Hp} {c : Nat} (hc : c < 11) : vl h (cI c 6) 3 = .int (h (cI c 6) 3) := vl_tr_3 (t := 3) hc (by decide)
theorem vl_tr_4 {h : Hp} {c t : Nat} (hc : c < 11) (ht : t < 4) : vl h (cI c (3 + t)) 4 = .int (h (cI c (3 + t)) 4) := by unfold vl; rw [rf_tr_ c hc t ht 4 (by decide)]
theorem vl_tr0_4 {h : Hp} {c : Nat} (hc : c < 11) : vl h (cI c 3) 4 = .int (h (cI c 3) 4) := vl_tr_4 (t := 0) hc (by decide)
theorem vl_tr1_4 {h : Hp} {c : Nat} (hc : c < 11) : vl h (cI c 4) 4 = .int (h (cI c 4) 4) := vl_tr_4 (t := 1) hc (by decide)
theorem vl_tr2_4 {h : Hp} {c : Nat} (hc : c < 11) : vl h (cI c 5) 4 = .int (h (cI c 5) 4) := vl_tr_4 (t := 2) hc (by decide)
theorem vl_tr3_4 {h : Hp} {c : Nat} (hc : c < 11) : vl h (cI c 6) 4 = .int (h (cI c 6) 4) := vl_tr_4 (t := 3) hc (by decide)
theorem vl_tr_5 {h : Hp} {c t : Nat} (hc : c < 11) (ht : t < 4) : vl h (cI c (3 + t)) 5 = .int (h (cI c (3 + t)) 5) := by unfold vl; rw [rf_tr_ c hc t ht 5 (by decide)]
theorem vl_tr0_5 {h : Hp} {c : Nat} (hc : c < 11) : vl h (cI c 3) 5 = .int (h (cI c 3) 5) := vl_tr_5 (t := 0) hc (by decide)
theorem vl_tr1_5 {h : Hp} {c : Nat} (hc : c < 11) : vl h (cI c 4) 5 = .int (h (cI c 4) 5) := vl_tr_5 (t := 1) hc (by decide)
theorem vl_tr2_5 {h : Hp} {c : Nat} (hc : c < 11) : vl h (cI c 5) 5 = .int (h (cI c 5) 5) := vl_tr_5 (t := 2) hc (by decide)
theorem vl_tr3_5 {h : Hp} {c : Nat} (hc : c < 11) : vl h (cI c 6) 5 = .int (h (cI c 6) 5) := vl_tr_5 (t := 3) hc (by decide)
theorem kd_tr_ : ∀ c, c < 11 → ∀ t, t < 4 → kd (cI c (3 + t)) = 6 := by decide +kernel
theorem kd_tr {c t : Nat} (hc : c < 11) (ht : t < 4) : kd (cI c (3 + t)) = 6 := kd_tr_ c hc t ht
theorem ne_sI_cI {a b i j : Nat} : (sI a i = cI b j) = False := eq_false (by unfold sI cI; omega)
theorem ne_cI_sI {a b i j : Nat} : (cI a i = sI b j) = False := eq_false (by unfold cI sI; omega)
theorem ne_sI_rI {a b i j : Nat} : (sI a i = rI b j) = False := eq_false (by unfold sI rI; omega)
theorem ne_rI_sI {a b i j : Nat} : (rI a i = sI b j) = False := eq_false (by unfold rI sI; omega)
theorem ne_cI_rI {a b i j : Nat} : (cI a i = rI b j) = False := eq_false (by unfold cI rI; omega)
theorem ne_rI_cI {a b i j : Nat} : (rI a i = cI b j) = False := eq_false (by unfold rI cI; omega)
theorem eq_sI_0 {a b : Nat} : (sI a 0 = sI b 0) = (a = b) := propext ⟨fun h => by unfold sI at h; omega, fun h => by rw [h]⟩
theorem ne_sI_0_1 {a b : Nat} : (sI a 0 = sI b 1) = False := eq_false (by unfold sI; omega)
theorem ne_sI_0_2 {a b : Nat} : (sI a 0 = sI b 2) = False := eq_false (by unfold sI; omega)
theorem ne_sI_0_3 {a b : Nat} : (sI a 0 = sI b 3) = False := eq_false (by unfold sI; omega)
theorem ne_sI_0_4 {a b : Nat} : (sI a 0 = sI b 4) = False := eq_false (by unfold sI; omega)
theorem ne_sI_1_0 {a b : Nat} : (sI a 1 = sI b 0) = False := eq_false (by unfold sI; omega)
theorem eq_sI_1 {a b : Nat} : (sI a 1 = sI b 1) = (a = b) := propext ⟨fun h => by unfold sI at h; omega, fun h => by rw [h]⟩
theorem ne_sI_1_2 {a b : Nat} : (sI a 1 = sI b 2) = False := eq_false (by unfold sI; omega)
theorem ne_sI_1_3 {a b : Nat} : (sI a 1 = sI b 3) = False := eq_false (by unfold sI; omega)
theorem ne_sI_1_4 {a b : Nat} : (sI a 1 = sI b 4) = False := eq_false (by unfold sI; omega)
theorem ne_sI_2_0 {a b : Nat} : (sI a 2 = sI b 0) = False := eq_false (by unfold sI; omega)
theorem ne_sI_2_1 {a b : Nat} : (sI a 2 = sI b 1) = False := eq_false (by unfold sI; omega)
theorem eq_sI_2 {a b : Nat} : (sI a 2 = sI b 2) = (a = b) := propext ⟨fun h => by unfold sI at h; omega, fun h => by rw [h]⟩
theorem ne_sI_2_3 {a b : Nat} : (sI a 2 = sI b 3) = False := eq_false (by unfold sI; omega)
theorem ne_sI_2_4 {a b : Nat} : (sI a 2 = sI b 4) = False := eq_false (by unfold sI; omega)
theorem ne_sI_3_0 {a b : Nat} : (sI a 3 = sI b 0) = False := eq_false (by unfold sI; omega)
theorem ne_sI_3_1 {a b : Nat} : (sI a 3 = sI b 1) = False := eq_false (by unfold sI; omega)
theorem ne_sI_3_2 {a b : Nat} : (sI a 3 = sI b 2) = False := eq_false (by unfold sI; omega)
theorem eq_sI_3 {a b : Nat} : (sI a 3 = sI b 3) = (a = b) := propext ⟨fun h => by unfold sI at h; omega, fun h => by rw [h]⟩
theorem ne_sI_3_4 {a b : Nat} : (sI a 3 = sI b 4) = False := eq_false (by unfold sI; omega)
theorem ne_sI_4_0 {a b : Nat} : (sI a 4 = sI b 0) = False := eq_false (by unfold sI; omega)
theorem ne_sI_4_1 {a b : Nat} : (sI a 4 = sI b 1) = False := eq_false (by unfold sI; omega)
theorem ne_sI_4_2 {a b : Nat} : (sI a 4 = sI b 2) = False := eq_false (by unfold sI; omega)
theorem ne_sI_4_3 {a b : Nat} : (sI a 4 = sI b 3) = False := eq_false (by unfold sI; omega)
theorem eq_sI_4 {a b : Nat} : (sI a 4 = sI b 4) = (a = b) := propext ⟨fun h => by unfold sI at h; omega, fun h => by rw [h]⟩
theorem ne_sI_k0 {a i : Nat} : (sI a i = 0) = False := eq_false (by unfold sI; omega)
theorem ne_k0_sI {a i : Nat} : (0 = sI a i) = False := eq_false (by unfold sI; omega)
theorem ne_sI_k1 {a i : Nat} : (sI a i = 1) = False := eq_false (by unfold sI; omega)
theorem ne_k1_sI {a i : Nat} : (1 = sI a i) = False := eq_false (by unfold sI; omega)
theorem ne_sI_k2 {a i : Nat} : (sI a i = 2) = False := eq_false (by unfold sI; omega)
theorem ne_k2_sI {a i : Nat} : (2 = sI a i) = False := eq_false (by unfold sI; omega)
theorem ne_sI_k3 {a i : Nat} : (sI a i = 3) = False := eq_false (by unfold sI; omega)
theorem ne_k3_sI {a i : Nat} : (3 = sI a i) = False := eq_false (by unfold sI; omega)
theorem ne_sI_k4 {a i : Nat} : (sI a i = 4) = False := eq_false (by unfold sI; omega)
theorem ne_k4_sI {a i : Nat} : (4 = sI a i) = False := eq_false (by unfold sI; omega)
theorem ne_sI_k5 {a i : Nat} : (sI a i = 5) = False := eq_false (by unfold sI; omega)
theorem ne_k5_sI {a i : Nat} : (5 = sI a i) = False := eq_false (by unfold sI; omega)
theorem ne_sI_k6 {a i : Nat} : (sI a i = 6) = False := eq_false (by unfold sI; omega)
theorem ne_k6_sI {a i : Nat} : (6 = sI a i) = False := eq_false (by unfold sI; omega)
theorem ne_sI_k7 {a i : Nat} : (sI a i = 7) = False := eq_false (by unfold sI; omega)
theorem ne_k7_sI {a i : Nat} : (7 = sI a i) = False := eq_false (by unfold sI; omega)
theorem ne_sI_k8 {a i : Nat} : (sI a i = 8) = False := eq_false (by unfold sI; omega)
theorem ne_k8_sI {a i : Nat} : (8 = sI a i) = False := eq_false (by unfold sI; omega)
theorem ne_sI_k9 {a i : Nat} : (sI a i = 9) = False := eq_false (by unfold sI; omega)
theorem ne_k9_sI {a i : Nat} : (9 = sI a i) = False := eq_false (by unfold sI; omega)
theorem ne_sI_k10 {a i : Nat} : (sI a i = 10) = False := eq_false (by unfold sI; omega)
theorem ne_k10_sI {a i : Nat} : (10 = sI a i) = False := eq_false (by unfold sI; omega)
theorem ne_sI_k11 {a i : Nat} : (sI a i = 11) = False := eq_false (by unfold sI; omega)
theorem ne_k11_sI {a i : Nat} : (11 = sI a i) = False := eq_false (by unfold sI; omega)
theorem ne_sI_k12 {a i : Nat} : (sI a i = 12) = False := eq_false (by unfold sI; omega)
theorem ne_k12_sI {a i : Nat} : (12 = sI a i) = False := eq_false (by unfold sI; omega)
theorem ne_sI_k13 {a i : Nat} : (sI a i = 13) = False := eq_false (by unfold sI; omega)
theorem ne_k13_sI {a i : Nat} : (13 = sI a i) = False := eq_false (by unfold sI; omega)
theorem ne_sI_k14 {a i : Nat} : (sI a i = 14) = False := eq_false (by unfold sI; omega)
theorem ne_k14_sI {a i : Nat} : (14 = sI a i) = False := eq_false (by unfold sI; omega)
theorem ne_sI_k15 {a i : Nat} : (sI a i = 15) = False := eq_false (by unfold sI; omega)
theorem ne_k15_sI {a i : Nat} : (15 = sI a i) = False := eq_false (by unfold sI; omega)
theorem ne_sI_k16 {a i : Nat} : (sI a i = 16) = False := eq_false (by unfold sI; omega)
theorem ne_k16_sI {a i : Nat} : (16 = sI a i) = False := eq_false (by unfold sI; omega)
theorem ne_sI_k600 {a i : Nat} : (sI a i = 600) = False := eq_false (by unfold sI; omega)
theorem ne_k600_sI {a i : Nat} : (600 = sI a i) = False := eq_false (by unfold sI; omega)
theorem ne_sI_k609 {a i : Nat} : (sI a i = 609) = False := eq_false (by unfold sI; omega)
theorem ne_k609_sI {a i : Nat} : (609 = sI a i) = False := eq_false (by unfold sI; omega)
theorem ne_sI_k610 {a i : Nat} : (sI a i = 610) = False := eq_false (by unfold sI; omega)
theorem ne_k610_sI {a i : Nat} : (610 = sI a i) = False := eq_false (by unfold sI; omega)
theorem ne_sI_k611 {a i : Nat} : (sI a i = 611) = False := eq_false (by unfold sI; omega)
theorem ne_k611_sI {a i : Nat} : (611 = sI a i) = False := eq_false (by unfold sI; omega)
theorem ne_sI_k612 {a i : Nat} : (sI a i = 612) = False := eq_false (by unfold sI; omega)
theorem ne_k612_sI {a i : Nat} : (612 = sI a i) = False := eq_false (by unfold sI; omega)
theorem ne_sI_k613 {a i : Nat} : (sI a i = 613) = False := eq_false (by unfold sI; omega)
theorem ne_k613_sI {a i : Nat} : (613 = sI a i) = False := eq_false (by unfold sI; omega)
theorem ne_sI_k614 {a i : Nat} : (sI a i = 614) = False := eq_false (by unfold sI; omega)
theorem ne_k614_sI {a i : Nat} : (614 = sI a i) = False := eq_false (by unfold sI; omega)
theorem ne_sI_k615 {a i : Nat} : (sI a i = 615) = False := eq_false (by unfold sI; omega)
theorem ne_k615_sI {a i : Nat} : (615 = sI a i) = False := eq_false (by unfold sI; omega)
theorem ne_sI_k616 {a i : Nat} : (sI a i = 616) = False := eq_false (by unfold sI; omega)
theorem ne_k616_sI {a i : Nat} : (616 = sI a i) = False := eq_false (by unfold sI; omega)
theorem ne_sI_k617 {a i : Nat} : (sI a i = 617) = False := eq_false (by unfold sI; omega)
theorem ne_k617_sI {a i : Nat} : (617 = sI a i) = False := eq_false (by unfold sI; omega)
theorem ne_sI_k618 {a i : Nat} : (sI a i = 618) = False := eq_false (by unfold sI; omega)
theorem ne_k618_sI {a i : Nat} : (618 = sI a i) = False := eq_false (by unfold sI; omega)
theorem ne_sI_k619 {a i : Nat} : (sI a i = 619) = False := eq_false (by unfold sI; omega)
theorem ne_k619_sI {a i : Nat} : (619 = sI a i) = False := eq_false (by unfold sI; omega)
theorem ne_sI_k620 {a i : Nat} : (sI a i = 620) = False := eq_false (by unfold sI; omega)
theorem ne_k620_sI {a i : Nat} : (620 = sI a i) = False := eq_false (by unfold sI; omega)
theorem ne_sI_k621 {a i : Nat} : (sI a i = 621) = False := eq_false (by unfold sI; omega)
theorem ne_k621_sI {a i : Nat} : (621 = sI a i) = False := eq_false (by unfold sI; omega)
theorem ne_sI_k622 {a i : Nat} : (sI a i = 622) = False := eq_false (by unfold sI; omega)
theorem ne_k622_sI {a i : Nat} : (622 = sI a i) = False := eq_false (by unfold sI; omega)
theorem ne_sI_k623 {a i : Nat} : (sI a i = 623) = False := eq_false (by unfold sI; omega)
theorem ne_k623_sI {a i : Nat} : (623 = sI a i) = False := eq_false (by unfold sI; omega)
theorem ne_sI_k624 {a i : Nat} : (sI a i = 624) = False := eq_false (by unfold sI; omega)
theorem ne_k624_sI {a i : Nat} : (624 = sI a i) = False := eq_false (by unfold sI; omega)
theorem ne_sI_k625 {a i : Nat} : (sI a i = 625) = False := eq_false (by unfold sI; omega)
theorem ne_k625_sI {a i : Nat} : (625 = sI a i) = False := eq_false (by unfold sI; omega)
theorem ne_sI_k626 {a i : Nat} : (sI a i = 626) = False := eq_false (by unfold sI; omega)
theorem ne_k626_sI {a i : Nat} : (626 = sI a i) = False := eq_false (by unfold sI; omega)
theorem ne_sI_k627 {a i : Nat} : (sI a i = 627) = False := eq_false (by unfold sI; omega)
theorem ne_k627_sI {a i : Nat} : (627 = sI a i) = False := eq_false (by unfold sI; omega)
theorem ne_sI_k628 {a i : Nat} : (sI a i = 628) = False := eq_false (by unfold sI; omega)
theorem ne_k628_sI {a i : Nat} : (628 = sI a i) = False := eq_false (by unfold sI; omega)
theorem ne_sI_k629 {a i : Nat} : (sI a i = 629) = False := eq_false (by unfold sI; omega)
theorem ne_k629_sI {a i : Nat} : (629 = sI a i) = False := eq_false (by unfold sI; omega)
theorem ne_sI_k630 {a i : Nat} : (sI a i = 630) = False := eq_false (by unfold sI; omega)
theorem ne_k630_sI {a i : Nat} : (630 = sI a i) = False := eq_false (by unfold sI; omega)
theorem ne_sI_k631 {a i : Nat} : (sI a i = 631) = False := eq_false (by unfold sI; omega)
theorem ne_k631_sI {a i : Nat} : (631 = sI a i) = False := eq_false (by unfold sI; omega)
theorem ne_sI_k632 {a i : Nat} : (sI a i = 632) = False := eq_false (by unfold sI; omega)
theorem ne_k632_sI {a i : Nat} : (632 = sI a i) = False := eq_false (by unfold sI; omega)
theorem ne_sI_k633 {a i : Nat} : (sI a i = 633) = False := eq_false (by unfold sI; omega)
theorem ne_k633_sI {a i : Nat} : (633 = sI a i) = False := eq_false (by unfold sI; omega)
theorem ne_sI_k634 {a i : Nat} : (sI a i = 634) = False := eq_false (by unfold sI; omega)
theorem ne_k634_sI {a i : Nat} : (634 = sI a i) = False := eq_false (by unfold sI; omega)
theorem ne_sI_k635 {a i : Nat} : (sI a i = 635) = False := eq_false (by unfold sI; omega)
theorem ne_k635_sI {a i : Nat} : (635 = sI a i) = False := eq_false (by unfold sI; omega)
theorem ne_sI_k636 {a i : Nat} : (sI a i = 636) = False := eq_false (by unfold sI; omega)
theorem ne_k636_sI {a i : Nat} : (636 = sI a i) = False := eq_false (by unfold sI; omega)
theorem ne_sI_k637 {a i : Nat} : (sI a i = 637) = False := eq_false (by unfold sI; omega)
theorem ne_k637_sI {a i : Nat} : (637 = sI a i) = False := eq_false (by unfold sI; omega)
theorem ne_sI_k639 {a i : Nat} : (sI a i = 639) = False := eq_false (by unfold sI; omega)
theorem ne_k639_sI {a i : Nat} : (639 = sI a i) = False := eq_false (by unfold sI; omega)
theorem ne_sI_k640 {a i : Nat} : (sI a i = 640) = False := eq_false (by unfold sI; omega)
theorem ne_k640_sI {a i : Nat} : (640 = sI a i) = False := eq_false (by unfold sI; omega)
theorem ne_sI_k641 {a i : Nat} : (sI a i = 641) = False := eq_false (by unfold sI; omega)
theorem ne_k641_sI {a i : Nat} : (641 = sI a i) = False := eq_false (by unfold sI; omega)
theorem ne_sI_k642 {a i : Nat} : (sI a i = 642) = False := eq_false (by unfold sI; omega)
theorem ne_k642_sI {a i : Nat} : (642 = sI a i) = False := eq_false (by unfold sI; omega)
theorem ne_sI_k643 {a i : Nat} : (sI a i = 643) = False := eq_false (by unfold sI; omega)
theorem ne_k643_sI {a i : Nat} : (643 = sI a i) = False := eq_false (by unfold sI; omega)
theorem ne_sI_k644 {a i : Nat} : (sI a i = 644) = False := eq_false (by unfold sI; omega)
theorem ne_k644_sI {a i : Nat} : (644 = sI a i) = False := eq_false (by unfold sI; omega)
theorem ne_sI_k645 {a i : Nat} : (sI a i = 645) = False := eq_false (by unfold sI; omega)
theorem ne_k645_sI {a i : Nat} : (645 = sI a i) = False := eq_false (by unfold sI; omega)
theorem ne_sI_k646 {a i : Nat} : (sI a i = 646) = False := eq_false (by unfold sI; omega)
theorem ne_k646_sI {a i : Nat} : (646 = sI a i) = False := eq_false (by unfold sI; omega)
theorem ne_sI_k647 {a i : Nat} : (sI a i = 647) = False := eq_false (by unfold sI; omega)
theorem ne_k647_sI {a i : Nat} : (647 = sI a i) = False := eq_false (by unfold sI; omega)
theorem ne_sI_k648 {a i : Nat} : (sI a i = 648) = False := eq_false (by unfold sI; omega)
theorem ne_k648_sI {a i : Nat} : (648 = sI a i) = False := eq_false (by unfold sI; omega)
theorem ne_sI_k649 {a i : Nat} : (sI a i = 649) = False := eq_false (by unfold sI; omega)
theorem ne_k649_sI {a i : Nat} : (649 = sI a i) = False := eq_false (by unfold sI; omega)
theorem ne_sI_k650 {a i : Nat} : (sI a i = 650) = False := eq_false (by unfold sI; omega)
theorem ne_k650_sI {a i : Nat} : (650 = sI a i) = False := eq_false (by unfold sI; omega)
theorem ne_sI_k654 {a i : Nat} : (sI a i = 654) = False := eq_false (by unfold sI; omega)
theorem ne_k654_sI {a i : Nat} : (654 = sI a i) = False := eq_false (by unfold sI; omega)
theorem eq_cI_0 {a b : Nat} : (cI a 0 = cI b 0) = (a = b) := propext ⟨fun h => by unfold cI at h; omega, fun h => by rw [h]⟩
theorem ne_cI_0_1 {a b : Nat} : (cI a 0 = cI b 1) = False := eq_false (by unfold cI; omega)
theorem ne_cI_0_2 {a b : Nat} : (cI a 0 = cI b 2) = False := eq_false (by unfold cI; omega)
theorem ne_cI_0_3 {a b : Nat} : (cI a 0 = cI b 3) = False := eq_false (by unfold cI; omega)
theorem ne_cI_0_4 {a b : Nat} : (cI a 0 = cI b 4) = False := eq_false (by unfold cI; omega)
theorem ne_cI_0_5 {a b : Nat} : (cI a 0 = cI b 5) = False := eq_false (by unfold cI; omega)
theorem ne_cI_0_6 {a b : Nat} : (cI a 0 = cI b 6) = False := eq_false (by unfold cI; omega)
theorem ne_cI_1_0 {a b : Nat} : (cI a 1 = cI b 0) = False := eq_false (by unfold cI; omega)
theorem eq_cI_1 {a b : Nat} : (cI a 1 = cI b 1) = (a = b) := propext ⟨fun h => by unfold cI at h; omega, fun h => by rw [h]⟩
theorem ne_cI_1_2 {a b : Nat} : (cI a 1 = cI b 2) = False := eq_false (by unfold cI; omega)
theorem ne_cI_1_3 {a b : Nat} : (cI a 1 = cI b 3) = False := eq_false (by unfold cI; omega)
theorem ne_cI_1_4 {a b : Nat} : (cI a 1 = cI b 4) = False := eq_false (by unfold cI; omega)
theorem ne_cI_1_5 {a b : Nat} : (cI a 1 = cI b 5) = False := eq_false (by unfold cI; omega)
theorem ne_cI_1_6 {a b : Nat} : (cI a 1 = cI b 6) = False := eq_false (by unfold cI; omega)
theorem ne_cI_2_0 {a b : Nat} : (cI a 2 = cI b 0) = False := eq_false (by unfold cI; omega)
theorem ne_cI_2_1 {a b : Nat} : (cI a 2 = cI b 1) = False := eq_false (by unfold cI; omega)
theorem eq_cI_2 {a b : Nat} : (cI a 2 = cI b 2) = (a = b) := propext ⟨fun h => by unfold cI at h; omega, fun h => by rw [h]⟩
theorem ne_cI_2_3 {a b : Nat} : (cI a 2 = cI b 3) = False := eq_false (by unfold cI; omega)
theorem ne_cI_2_4 {a b : Nat} : (cI a 2 = cI b 4) = False := eq_false (by unfold cI; omega)
theorem ne_cI_2_5 {a b : Nat} : (cI a 2 = cI b 5) = False := eq_false (by unfold cI; omega)
theorem ne_cI_2_6 {a b : Nat} : (cI a 2 = cI b 6) = False := eq_false (by unfold cI; omega)
theorem ne_cI_3_0 {a b : Nat} : (cI a 3 = cI b 0) = False := eq_false (by unfold cI; omega)
theorem ne_cI_3_1 {a b : Nat} : (cI a 3 = cI b 1) = False := eq_false (by unfold cI; omega)
theorem ne_cI_3_2 {a b : Nat} : (cI a 3 = cI b 2) = False := eq_false (by unfold cI; omega)
theorem eq_cI_3 {a b : Nat} : (cI a 3 = cI b 3) = (a = b) := propext ⟨fun h => by unfold cI at h; omega, fun h => by rw [h]⟩
theorem ne_cI_3_4 {a b : Nat} : (cI a 3 = cI b 4) = False := eq_false (by unfold cI; omega)
theorem ne_cI_3_5 {a b : Nat} : (cI a 3 = cI b 5) = False := eq_false (by unfold cI; omega)
theorem ne_cI_3_6 {a b : Nat} : (cI a 3 = cI b 6) = False := eq_false (by unfold cI; omega)
theorem ne_cI_4_0 {a b : Nat} : (cI a 4 = cI b 0) = False := eq_false (by unfold cI; omega)
theorem ne_cI_4_1 {a b : Nat} : (cI a 4 = cI b 1) = False := eq_false (by unfold cI; omega)
theorem ne_cI_4_2 {a b : Nat} : (cI a 4 = cI b 2) = False := eq_false (by unfold cI; omega)
theorem ne_cI_4_3 {a b : Nat} : (cI a 4 = cI b 3) = False := eq_false (by unfold cI; omega)
theorem eq_cI_4 {a b : Nat} : (cI a 4 = cI b 4) = (a = b) := propext ⟨fun h => by unfold cI at h; omega, fun h => by rw [h]⟩
theorem ne_cI_4_5 {a b : Nat} : (cI a 4 = cI b 5) = False := eq_false (by unfold cI; omega)
theorem ne_cI_4_6 {a b : Nat} : (cI a 4 = cI b 6) = False := eq_false (by unfold cI; omega)
theorem ne_cI_5_0 {a b : Nat} : (cI a 5 = cI b 0) = False := eq_false (by unfold cI; omega)
theorem ne_cI_5_1 {a b : Nat} : (cI a 5 = cI b 1) = False := eq_false (by unfold cI; omega)
theorem ne_cI_5_2 {a b : Nat} : (cI a 5 = cI b 2) = False := eq_false (by unfold cI; omega)
theorem ne_cI_5_3 {a b : Nat} : (cI a 5 = cI b 3) = False := eq_false (by unfold cI; omega)
theorem ne_cI_5_4 {a b : Nat} : (cI a 5 = cI b 4) = False := eq_false (by unfold cI; omega)
theorem eq_cI_5 {a b : Nat} : (cI a 5 = cI b 5) = (a = b) := propext ⟨fun h => by unfold cI at h; omega, fun h => by rw [h]⟩
theorem ne_cI_5_6 {a b : Nat} : (cI a 5 = cI b 6) = False := eq_false (by unfold cI; omega)
theorem ne_cI_6_0 {a b : Nat} : (cI a 6 = cI b 0) = False := eq_false (by unfold cI; omega)
theorem ne_cI_6_1 {a b : Nat} : (cI a 6 = cI b 1) = False := eq_false (by unfold cI; omega)
theorem ne_cI_6_2 {a b : Nat} : (cI a 6 = cI b 2) = False := eq_false (by unfold cI; omega)
theorem ne_cI_6_3 {a b : Nat} : (cI a 6 = cI b 3) = False := eq_false (by unfold cI; omega)
theorem ne_cI_6_4 {a b : Nat} : (cI a 6 = cI b 4) = False := eq_false (by unfold cI; omega)
theorem ne_cI_6_5 {a b : Nat} : (cI a 6 = cI b 5) = False := eq_false (by unfold cI; omega)
theorem eq_cI_6 {a b : Nat} : (cI a 6 = cI b 6) = (a = b) := propext ⟨fun h => by unfold cI at h; omega, fun h => by rw [h]⟩
theorem ne_cI_k0 {a i : Nat} : (cI a i = 0) = False := eq_false (by unfold cI; omega)
theorem ne_k0_cI {a i : Nat} : (0 = cI a i) = False := eq_false (by unfold cI; omega)
theorem ne_cI_k1 {a i : Nat} : (cI a i = 1) = False := eq_false (by unfold cI; omega)
theorem ne_k1_cI {a i : Nat} : (1 = cI a i) = False := eq_false (by unfold cI; omega)
theorem ne_cI_k2 {a i : Nat} : (cI a i = 2) = False := eq_false (by unfold cI; omega)
theorem ne_k2_cI {a i : Nat} : (2 = cI a i) = False := eq_false (by unfold cI; omega)
theorem ne_cI_k3 {a i : Nat} : (cI a i = 3) = False := eq_false (by unfold cI; omega)
theorem ne_k3_cI {a i : Nat} : (3 = cI a i) = False := eq_false (by unfold cI; omega)
theorem ne_cI_k4 {a i : Nat} : (cI a i = 4) = False := eq_false (by unfold cI; omega)
theorem ne_k4_cI {a i : Nat} : (4 = cI a i) = False := eq_false (by unfold cI; omega)
theorem ne_cI_k5 {a i : Nat} : (cI a i = 5) = False := eq_false (by unfold cI; omega)
theorem ne_k5_cI {a i : Nat} : (5 = cI a i) = False := eq_false (by unfold cI; omega)
theorem ne_cI_k6 {a i : Nat} : (cI a i = 6) = False := eq_false (by unfold cI; omega)
theorem ne_k6_cI {a i : Nat} : (6 = cI a i) = False := eq_false (by unfold cI; omega)
theorem ne_cI_k7 {a i : Nat} : (cI a i = 7) = False := eq_false (by unfold cI; omega)
theorem ne_k7_cI {a i : Nat} : (7 = cI a i) = False := eq_false (by unfold cI; omega)
theorem ne_cI_k8 {a i : Nat} : (cI a i = 8) = False := eq_false (by unfold cI; omega)
theorem ne_k8_cI {a i : Nat} : (8 = cI a i) = False := eq_false (by unfold cI; omega)
theorem ne_cI_k9 {a i : Nat} : (cI a i = 9) = False := eq_false (by unfold cI; omega)
theorem ne_k9_cI {a i : Nat} : (9 = cI a i) = False := eq_false (by unfold cI; omega)
theorem ne_cI_k10 {a i : Nat} : (cI a i = 10) = False := eq_false (by unfold cI; omega)
theorem ne_k10_cI {a i : Nat} : (10 = cI a i) = False := eq_false (by unfold cI; omega)
theorem ne_cI_k11 {a i : Nat} : (cI a i = 11) = False := eq_false (by unfold cI; omega)
theorem ne_k11_cI {a i : Nat} : (11 = cI a i) = False := eq_false (by unfold cI; omega)
theorem ne_cI_k12 {a i : Nat} : (cI a i = 12) = False := eq_false (by unfold cI; omega)
theorem ne_k12_cI {a i : Nat} : (12 = cI a i) = False := eq_false (by unfold cI; omega)
theorem ne_cI_k13 {a i : Nat} : (cI a i = 13) = False := eq_false (by unfold cI; omega)
theorem ne_k13_cI {a i : Nat} : (13 = cI a i) = False := eq_false (by unfold cI; omega)
theorem ne_cI_k14 {a i : Nat} : (cI a i = 14) = False := eq_false (by unfold cI; omega)
theorem ne_k14_cI {a i : Nat} : (14 = cI a i) = False := eq_false (by unfold cI; omega)
theorem ne_cI_k15 {a i : Nat} : (cI a i = 15) = False := eq_false (by unfold cI; omega)
theorem ne_k15_cI {a i : Nat} : (15 = cI a i) = False := eq_false (by unfold cI; omega)
theorem ne_cI_k16 {a i : Nat} : (cI a i = 16) = False := eq_false (by unfold cI; omega)
theorem ne_k16_cI {a i : Nat} : (16 = cI a i) = False := eq_false (by unfold cI; omega)
theorem ne_cI_k600 {a i : Nat} : (cI a i = 600) = False := eq_false (by unfold cI; omega)
theorem ne_k600_cI {a i : Nat} : (600 = cI a i) = False := eq_false (by unfold cI; omega)
theorem ne_cI_k609 {a i : Nat} : (cI a i = 609) = False := eq_false (by unfold cI; omega)
theorem ne_k609_cI {a i : Nat} : (609 = cI a i) = False := eq_false (by unfold cI; omega)
theorem ne_cI_k610 {a i : Nat} : (cI a i = 610) = False := eq_false (by unfold cI; omega)
theorem ne_k610_cI {a i : Nat} : (610 = cI a i) = False := eq_false (by unfold cI; omega)
theorem ne_cI_k611 {a i : Nat} : (cI a i = 611) = False := eq_false (by unfold cI; omega)
theorem ne_k611_cI {a i : Nat} : (611 = cI a i) = False := eq_false (by unfold cI; omega)
theorem ne_cI_k612 {a i : Nat} : (cI a i = 612) = False := eq_false (by unfold cI; omega)
theorem ne_k612_cI {a i : Nat} : (612 = cI a i) = False := eq_false (by unfold cI; omega)
theorem ne_cI_k613 {a i : Nat} : (cI a i = 613) = False := eq_false (by unfold cI; omega)
theorem ne_k613_cI {a i : Nat} : (613 = cI a i) = False := eq_false (by unfold cI; omega)
theorem ne_cI_k614 {a i : Nat} : (cI a i = 614) = False := eq_false (by unfold cI; omega)
theorem ne_k614_cI {a i : Nat} : (614 = cI a i) = False := eq_false (by unfold cI; omega)
theorem ne_cI_k615 {a i : Nat} : (cI a i = 615) = False := eq_false (by unfold cI; omega)
theorem ne_k615_cI {a i : Nat} : (615 = cI a i) = False := eq_false (by unfold cI; omega)
theorem ne_cI_k616 {a i : Nat} : (cI a i = 616) = False := eq_false (by unfold cI; omega)
theorem ne_k616_cI {a i : Nat} : (616 = cI a i) = False := eq_false (by unfold cI; omega)
theorem ne_cI_k617 {a i : Nat} : (cI a i = 617) = False := eq_false (by unfold cI; omega)
theorem ne_k617_cI {a i : Nat} : (617 = cI a i) = False := eq_false (by unfold cI; omega)
theorem ne_cI_k618 {a i : Nat} : (cI a i = 618) = False := eq_false (by unfold cI; omega)
theorem ne_k618_cI {a i : Nat} : (618 = cI a i) = False := eq_false (by unfold cI; omega)
theorem ne_cI_k619 {a i : Nat} : (cI a i = 619) = False := eq_false (by unfold cI; omega)
theorem ne_k619_cI {a i : Nat} : (619 = cI a i) = False := eq_false (by unfold cI; omega)
theorem ne_cI_k620 {a i : Nat} : (cI a i = 620) = False := eq_false (by unfold cI; omega)
theorem ne_k620_cI {a i : Nat} : (620 = cI a i) = False := eq_false (by unfold cI; omega)
theorem ne_cI_k621 {a i : Nat} : (cI a i = 621) = False := eq_false (by unfold cI; omega)
theorem ne_k621_cI {a i : Nat} : (621 = cI a i) = False := eq_false (by unfold cI; omega)
theorem ne_cI_k622 {a i : Nat} : (cI a i = 622) = False := eq_false (by unfold cI; omega)
theorem ne_k622_cI {a i : Nat} : (622 = cI a i) = False := eq_false (by unfold cI; omega)
theorem ne_cI_k623 {a i : Nat} : (cI a i = 623) = False := eq_false (by unfold cI; omega)
theorem ne_k623_cI {a i : Nat} : (623 = cI a i) = False := eq_false (by unfold cI; omega)
theorem ne_cI_k624 {a i : Nat} : (cI a i = 624) = False := eq_false (by unfold cI; omega)
theorem ne_k624_cI {a i : Nat} : (624 = cI a i) = False := eq_false (by unfold cI; omega)
theorem ne_cI_k625 {a i : Nat} : (cI a i = 625) = False := eq_false (by unfold cI; omega)
theorem ne_k625_cI {a i : Nat} : (625 = cI a i) = False := eq_false (by unfold cI; omega)
theorem ne_cI_k626 {a i : Nat} : (cI a i = 626) = False := eq_false (by unfold cI; omega)
theorem ne_k626_cI {a i : Nat} : (626 = cI a i) = False := eq_false (by unfold cI; omega)
theorem ne_cI_k627 {a i : Nat} : (cI a i = 627) = False := eq_false (by unfold cI; omega)
theorem ne_k627_cI {a i : Nat} : (627 = cI a i) = False := eq_false (by unfold cI; omega)
theorem ne_cI_k628 {a i : Nat} : (cI a i = 628) = False := eq_false (by unfold cI; omega)
theorem ne_k628_cI {a i : Nat} : (628 = cI a i) = False := eq_false (by unfold cI; omega)
theorem ne_cI_k629 {a i : Nat} : (cI a i = 629) = False := eq_false (by unfold cI; omega)
theorem ne_k629_cI {a i : Nat} : (629 = cI a i) = False := eq_false (by unfold cI; omega)
theorem ne_cI_k630 {a i : Nat} : (cI a i = 630) = False := eq_false (by unfold cI; omega)
theorem ne_k630_cI {a i : Nat} : (630 = cI a i) = False := eq_false (by unfold cI; omega)
theorem ne_cI_k631 {a i : Nat} : (cI a i = 631) = False := eq_false (by unfold cI; omega)
theorem ne_k631_cI {a i : Nat} : (631 = cI a i) = False := eq_false (by unfold cI; omega)
theorem ne_cI_k632 {a i : Nat} : (cI a i = 632) = False := eq_false (by unfold cI; omega)
theorem ne_k632_cI {a i : Nat} : (632 = cI a i) = False := eq_false (by unfold cI; omega)
theorem ne_cI_k633 {a i : Nat} : (cI a i = 633) = False := eq_false (by unfold cI; omega)
theorem ne_k633_cI {a i : Nat} : (633 = cI a i) = False := eq_false (by unfold cI; omega)
theorem ne_cI_k634 {a i : Nat} : (cI a i = 634) = False := eq_false (by unfold cI; omega)
theorem ne_k634_cI {a i : Nat} : (634 = cI a i) = False := eq_false (by unfold cI; omega)
theorem ne_cI_k635 {a i : Nat} : (cI a i = 635) = False := eq_false (by unfold cI; omega)
theorem ne_k635_cI {a i : Nat} : (635 = cI a i) = False := eq_false (by unfold cI; omega)
theorem ne_cI_k636 {a i : Nat} : (cI a i = 636) = False := eq_false (by unfold cI; omega)
theorem ne_k636_cI {a i : Nat} : (636 = cI a i) = False := eq_false (by unfold cI; omega)
theorem ne_cI_k637 {a i : Nat} : (cI a i = 637) = False := eq_false (by unfold cI; omega)
theorem ne_k637_cI {a i : Nat} : (637 = cI a i) = False := eq_false (by unfold cI; omega)
theorem ne_cI_k639 {a i : Nat} : (cI a i = 639) = False := eq_false (by unfold cI; omega)
theorem ne_k639_cI {a i : Nat} : (639 = cI a i) = False := eq_false (by unfold cI; omega)
theorem ne_cI_k640 {a i : Nat} : (cI a i = 640) = False := eq_false (by unfold cI; omega)
theorem ne_k640_cI {a i : Nat} : (640 = cI a i) = False := eq_false (by unfold cI; omega)
theorem ne_cI_k641 {a i : Nat} : (cI a i = 641) = False := eq_false (by unfold cI; omega)
theorem ne_k641_cI {a i : Nat} : (641 = cI a i) = False := eq_false (by unfold cI; omega)
theorem ne_cI_k642 {a i : Nat} : (cI a i = 642) = False := eq_false (by unfold cI; omega)
theorem ne_k642_cI {a i : Nat} : (642 = cI a i) = False := eq_false (by unfold cI; omega)
theorem ne_cI_k643 {a i : Nat} : (cI a i = 643) = False := eq_false (by unfold cI; omega)
theorem ne_k643_cI {a i : Nat} : (643 = cI a i) = False := eq_false (by unfold cI; omega)
theorem ne_cI_k644 {a i : Nat} : (cI a i = 644) = False := eq_false (by unfold cI; omega)
theorem ne_k644_cI {a i : Nat} : (644 = cI a i) = False := eq_false (by unfold cI; omega)
theorem ne_cI_k645 {a i : Nat} : (cI a i = 645) = False := eq_false (by unfold cI; omega)
theorem ne_k645_cI {a i : Nat} : (645 = cI a i) = False := eq_false (by unfold cI; omega)
theorem ne_cI_k646 {a i : Nat} : (cI a i = 646) = False := eq_false (by unfold cI; omega)
theorem ne_k646_cI {a i : Nat} : (646 = cI a i) = False := eq_false (by unfold cI; omega)
theorem ne_cI_k647 {a i : Nat} : (cI a i = 647) = False := eq_false (by unfold cI; omega)
theorem ne_k647_cI {a i : Nat} : (647 = cI a i) = False := eq_false (by unfold cI; omega)
theorem ne_cI_k648 {a i : Nat} : (cI a i = 648) = False := eq_false (by unfold cI; omega)
theorem ne_k648_cI {a i : Nat} : (648 = cI a i) = False := eq_false (by unfold cI; omega)
theorem ne_cI_k649 {a i : Nat} : (cI a i = 649) = False := eq_false (by unfold cI; omega)
theorem ne_k649_cI {a i : Nat} : (649 = cI a i) = False := eq_false (by unfold cI; omega)
theorem ne_cI_k650 {a i : Nat} : (cI a i = 650) = False := eq_false (by unfold cI; omega)
theorem ne_k650_cI {a i : Nat} : (650 = cI a i) = False := eq_false (by unfold cI; omega)
theorem ne_cI_k654 {a i : Nat} : (cI a i = 654) = False := eq_false (by unfold cI; omega)
theorem ne_k654_cI {a i : Nat} : (654 = cI a i) = False := eq_false (by unfold cI; omega)
theorem eq_rI_0 {a b : Nat} : (rI a 0 = rI b 0) = (a = b) := propext ⟨fun h => by unfold rI at h; omega, fun h => by rw [h]⟩
theorem ne_rI_0_1 {a b : Nat} : (rI a 0 = rI b 1) = False := eq_false (by unfold rI; omega)
theorem ne_rI_0_2 {a b : Nat} : (rI a 0 = rI b 2) = False := eq_false (by unfold rI; omega)
theorem ne_rI_0_3 {a b : Nat} : (rI a 0 = rI b 3) = False := eq_false (by unfold rI; omega)
theorem ne_rI_1_0 {a b : Nat} : (rI a 1 = rI b 0) = False := eq_false (by unfold rI; omega)
theorem eq_rI_1 {a b : Nat} : (rI a 1 = rI b 1) = (a = b) := propext ⟨fun h => by unfold rI at h; omega, fun h => by rw [h]⟩
theorem ne_rI_1_2 {a b : Nat} : (rI a 1 = rI b 2) = False := eq_false (by unfold rI; omega)
theorem ne_rI_1_3 {a b : Nat} : (rI a 1 = rI b 3) = False := eq_false (by unfold rI; omega)
theorem ne_rI_2_0 {a b : Nat} : (rI a 2 = rI b 0) = False := eq_false (by unfold rI; omega)
theorem ne_rI_2_1 {a b : Nat} : (rI a 2 = rI b 1) = False := eq_false (by unfold rI; omega)
theorem eq_rI_2 {a b : Nat} : (rI a 2 = rI b 2) = (a = b) := propext ⟨fun h => by unfold rI at h; omega, fun h => by rw [h]⟩
theorem ne_rI_2_3 {a b : Nat} : (rI a 2 = rI b 3) = False := eq_false (by unfold rI; omega)
theorem ne_rI_3_0 {a b : Nat} : (rI a 3 = rI b 0) = False := eq_false (by unfold rI; omega)
theorem ne_rI_3_1 {a b : Nat} : (rI a 3 = rI b 1) = False := eq_false (by unfold rI; omega)
theorem ne_rI_3_2 {a b : Nat} : (rI a 3 = rI b 2) = False := eq_false (by unfold rI; omega)
theorem eq_rI_3 {a b : Nat} : (rI a 3 = rI b 3) = (a = b) := propext ⟨fun h => by unfold rI at h; omega, fun h => by rw [h]⟩
theorem ne_rI_k0 {a i : Nat} : (rI a i = 0) = False := eq_false (by unfold rI; omega)
theorem ne_k0_rI {a i : Nat} : (0 = rI a i) = False := eq_false (by unfold rI; omega)
theorem ne_rI_k1 {a i : Nat} : (rI a i = 1) = False := eq_false (by unfold rI; omega)
theorem ne_k1_rI {a i : Nat} : (1 = rI a i) = False := eq_false (by unfold rI; omega)
theorem ne_rI_k2 {a i : Nat} : (rI a i = 2) = False := eq_false (by unfold rI; omega)
theorem ne_k2_rI {a i : Nat} : (2 = rI a i) = False := eq_false (by unfold rI; omega)
theorem ne_rI_k3 {a i : Nat} : (rI a i = 3) = False := eq_false (by unfold rI; omega)
theorem ne_k3_rI {a i : Nat} : (3 = rI a i) = False := eq_false (by unfold rI; omega)
theorem ne_rI_k4 {a i : Nat} : (rI a i = 4) = False := eq_false (by unfold rI; omega)
theorem ne_k4_rI {a i : Nat} : (4 = rI a i) = False := eq_false (by unfold rI; omega)
theorem ne_rI_k5 {a i : Nat} : (rI a i = 5) = False := eq_false (by unfold rI; omega)
theorem ne_k5_rI {a i : Nat} : (5 = rI a i) = False := eq_false (by unfold rI; omega)
theorem ne_rI_k6 {a i : Nat} : (rI a i = 6) = False := eq_false (by unfold rI; omega)
theorem ne_k6_rI {a i : Nat} : (6 = rI a i) = False := eq_false (by unfold rI; omega)
theorem ne_rI_k7 {a i : Nat} : (rI a i = 7) = False := eq_false (by unfold rI; omega)
theorem ne_k7_rI {a i : Nat} : (7 = rI a i) = False := eq_false (by unfold rI; omega)
theorem ne_rI_k8 {a i : Nat} : (rI a i = 8) = False := eq_false (by unfold rI; omega)
theorem ne_k8_rI {a i : Nat} : (8 = rI a i) = False := eq_false (by unfold rI; omega)
theorem ne_rI_k9 {a i : Nat} : (rI a i = 9) = False := eq_false (by unfold rI; omega)
theorem ne_k9_rI {a i : Nat} : (9 = rI a i) = False := eq_false (by unfold rI; omega)
theorem ne_rI_k10 {a i : Nat} : (rI a i = 10) = False := eq_false (by unfold rI; omega)
theorem ne_k10_rI {a i : Nat} : (10 = rI a i) = False := eq_false (by unfold rI; omega)
theorem ne_rI_k11 {a i : Nat} : (rI a i = 11) = False := eq_false (by unfold rI; omega)
theorem ne_k11_rI {a i : Nat} : (11 = rI a i) = False := eq_false (by unfold rI; omega)
theorem ne_rI_k12 {a i : Nat} : (rI a i = 12) = False := eq_false (by unfold rI; omega)
theorem ne_k12_rI {a i : Nat} : (12 = rI a i) = False := eq_false (by unfold rI; omega)
theorem ne_rI_k13 {a i : Nat} : (rI a i = 13) = False := eq_false (by unfold rI; omega)
theorem ne_k13_rI {a i : Nat} : (13 = rI a i) = False := eq_false (by unfold rI; omega)
theorem ne_rI_k14 {a i : Nat} : (rI a i = 14) = False := eq_false (by unfold rI; omega)
theorem ne_k14_rI {a i : Nat} : (14 = rI a i) = False := eq_false (by unfold rI; omega)
theorem ne_rI_k15 {a i : Nat} : (rI a i = 15) = False := eq_false (by unfold rI; omega)
theorem ne_k15_rI {a i : Nat} : (15 = rI a i) = False := eq_false (by unfold rI; omega)
theorem ne_rI_k16 {a i : Nat} : (rI a i = 16) = False := eq_false (by unfold rI; omega)
theorem ne_k16_rI {a i : Nat} : (16 = rI a i) = False := eq_false (by unfold rI; omega)
theorem ne_rI_k600 {a i : Nat} : (rI a i = 600) = False := eq_false (by unfold rI; omega)
theorem ne_k600_rI {a i : Nat} : (600 = rI a i) = False := eq_false (by unfold rI; omega)
theorem ne_rI_k609 {a i : Nat} : (rI a i = 609) = False := eq_false (by unfold rI; omega)
theorem ne_k609_rI {a i : Nat} : (609 = rI a i) = False := eq_false (by unfold rI; omega)
theorem ne_rI_k610 {a i : Nat} : (rI a i = 610) = False := eq_false (by unfold rI; omega)
theorem ne_k610_rI {a i : Nat} : (610 = rI a i) = False := eq_false (by unfold rI; omega)
theorem ne_rI_k611 {a i : Nat} : (rI a i = 611) = False := eq_false (by unfold rI; omega)
theorem ne_k611_rI {a i : Nat} : (611 = rI a i) = False := eq_false (by unfold rI; omega)
theorem ne_rI_k612 {a i : Nat} : (rI a i = 612) = False := eq_false (by unfold rI; omega)
theorem ne_k612_rI {a i : Nat} : (612 = rI a i) = False := eq_false (by unfold rI; omega)
theorem ne_rI_k613 {a i : Nat} : (rI a i = 613) = False := eq_false (by unfold rI; omega)
theorem ne_k613_rI {a i : Nat} : (613 = rI a i) = False := eq_false (by unfold rI; omega)
theorem ne_rI_k614 {a i : Nat} : (rI a i = 614) = False := eq_false (by unfold rI; omega)
theorem ne_k614_rI {a i : Nat} : (614 = rI a i) = False := eq_false (by unfold rI; omega)
theorem ne_rI_k615 {a i : Nat} : (rI a i = 615) = False := eq_false (by unfold rI; omega)
theorem ne_k615_rI {a i : Nat} : (615 = rI a i) = False := eq_false (by unfold rI; omega)
theorem ne_rI_k616 {a i : Nat} : (rI a i = 616) = False := eq_false (by unfold rI; omega)
theorem ne_k616_rI {a i : Nat} : (616 = rI a i) = False := eq_false (by unfold rI; omega)
theorem ne_rI_k617 {a i : Nat} : (rI a i = 617) = False := eq_false (by unfold rI; omega)
theorem ne_k617_rI {a i : Nat} : (617 = rI a i) = False := eq_false (by unfold rI; omega)
theorem ne_rI_k618 {a i : Nat} : (rI a i = 618) = False := eq_false (by unfold rI; omega)
theorem ne_k618_rI {a i : Nat} : (618 = rI a i) = False := eq_false (by unfold rI; omega)
theorem ne_rI_k619 {a i : Nat} : (rI a i = 619) = False := eq_false (by unfold rI; omega)
theorem ne_k619_rI {a i : Nat} : (619 = rI a i) = False := eq_false (by unfold rI; omega)
theorem ne_rI_k620 {a i : Nat} : (rI a i = 620) = False := eq_false (by unfold rI; omega)
theorem ne_k620_rI {a i : Nat} : (620 = rI a i) = False := eq_false (by unfold rI; omega)
theorem ne_rI_k621 {a i : Nat} : (rI a i = 621) = False := eq_false (by unfold rI; omega)
theorem ne_k621_rI {a i : Nat} : (621 = rI a i) = False := eq_false (by unfold rI; omega)
theorem ne_rI_k622 {a i : Nat} : (rI a i = 622) = False := eq_false (by unfold rI; omega)
theorem ne_k622_rI {a i : Nat} : (622 = rI a i) = False := eq_false (by unfold rI; omega)
theorem ne_rI_k623 {a i : Nat} : (rI a i = 623) = False := eq_false (by unfold rI; omega)
theorem ne_k623_rI {a i : Nat} : (623 = rI a i) = False := eq_false (by unfold rI; omega)
theorem ne_rI_k624 {a i : Nat} : (rI a i = 624) = False := eq_false (by unfold rI; omega)
theorem ne_k624_rI {a i : Nat} : (624 = rI a i) = False := eq_false (by unfold rI; omega)
theorem ne_rI_k625 {a i : Nat} : (rI a i = 625) = False := eq_false (by unfold rI; omega)
theorem ne_k625_rI {a i : Nat} : (625 = rI a i) = False := eq_false (by unfold rI; omega)
theorem ne_rI_k626 {a i : Nat} : (rI a i = 626) = False := eq_false (by unfold rI; omega)
theorem ne_k626_rI {a i : Nat} : (626 = rI a i) = False := eq_false (by unfold rI; omega)
theorem ne_rI_k627 {a i : Nat} : (rI a i = 627) = False := eq_false (by unfold rI; omega)
theorem ne_k627_rI {a i : Nat} : (627 = rI a i) = False := eq_false (by unfold rI; omega)
theorem ne_rI_k628 {a i : Nat} : (rI a i = 628) = False := eq_false (by unfold rI; omega)
theorem ne_k628_rI {a i : Nat} : (628 = rI a i) = False := eq_false (by unfold rI; omega)
theorem ne_rI_k629 {a i : Nat} : (rI a i = 629) = False := eq_false (by unfold rI; omega)
theorem ne_k629_rI {a i : Nat} : (629 = rI a i) = False := eq_false (by unfold rI; omega)
theorem ne_rI_k630 {a i : Nat} : (rI a i = 630) = False := eq_false (by unfold rI; omega)
theorem ne_k630_rI {a i : Nat} : (630 = rI a i) = False := eq_false (by unfold rI; omega)
theorem ne_rI_k631 {a i : Nat} : (rI a i = 631) = False := eq_false (by unfold rI; omega)
theorem ne_k631_rI {a i : Nat} : (631 = rI a i) = False := eq_false (by unfold rI; omega)
theorem ne_rI_k632 {a i : Nat} : (rI a i = 632) = False := eq_false (by unfold rI; omega)
theorem ne_k632_rI {a i : Nat} : (632 = rI a i) = False := eq_false (by unfold rI; omega)
theorem ne_rI_k633 {a i : Nat} : (rI a i = 633) = False := eq_false (by unfold rI; omega)
theorem ne_k633_rI {a i : Nat} : (633 = rI a i) = False := eq_false (by unfold rI; omega)
theorem ne_rI_k634 {a i : Nat} : (rI a i = 634) = False := eq_false (by unfold rI; omega)
theorem ne_k634_rI {a i : Nat} : (634 = rI a i) = False := eq_false (by unfold rI; omega)
theorem ne_rI_k635 {a i : Nat} : (rI a i = 635) = False := eq_false (by unfold rI; omega)
theorem ne_k635_rI {a i : Nat} : (635 = rI a i) = False := eq_false (by unfold rI; omega)
theorem ne_rI_k636 {a i : Nat} : (rI a i = 636) = False := eq_false (by unfold rI; omega)
theorem ne_k636_rI {a i : Nat} : (636 = rI a i) = False := eq_false (by unfold rI; omega)
theorem ne_rI_k637 {a i : Nat} : (rI a i = 637) = False := eq_false (by unfold rI; omega)
theorem ne_k637_rI {a i : Nat} : (637 = rI a i) = False := eq_false (by unfold rI; omega)
theorem ne_rI_k639 {a i : Nat} : (rI a i = 639) = False := eq_false (by unfold rI; omega)
theorem ne_k639_rI {a i : Nat} : (639 = rI a i) = False := eq_false (by unfold rI; omega)
theorem ne_rI_k640 {a i : Nat} : (rI a i = 640) = False := eq_false (by unfold rI; omega)
theorem ne_k640_rI {a i : Nat} : (640 = rI a i) = False := eq_false (by unfold rI; omega)
theorem ne_rI_k641 {a i : Nat} : (rI a i = 641) = False := eq_false (by unfold rI; omega)
theorem ne_k641_rI {a i : Nat} : (641 = rI a i) = False := eq_false (by unfold rI; omega)
theorem ne_rI_k642 {a i : Nat} : (rI a i = 642) = False := eq_false (by unfold rI; omega)
theorem ne_k642_rI {a i : Nat} : (642 = rI a i) = False := eq_false (by unfold rI; omega)
theorem ne_rI_k643 {a i : Nat} : (rI a i = 643) = False := eq_false (by unfold rI; omega)
theorem ne_k643_rI {a i : Nat} : (643 = rI a i) = False := eq_false (by unfold rI; omega)
theorem ne_rI_k644 {a i : Nat} : (rI a i = 644) = False := eq_false (by unfold rI; omega)
theorem ne_k644_rI {a i : Nat} : (644 = rI a i) = False := eq_false (by unfold rI; omega)
theorem ne_rI_k645 {a i : Nat} : (rI a i = 645) = False := eq_false (by unfold rI; omega)
theorem ne_k645_rI {a i : Nat} : (645 = rI a i) = False := eq_false (by unfold rI; omega)
theorem ne_rI_k646 {a i : Nat} : (rI a i = 646) = False := eq_false (by unfold rI; omega)
theorem ne_k646_rI {a i : Nat} : (646 = rI a i) = False := eq_false (by unfold rI; omega)
theorem ne_rI_k647 {a i : Nat} : (rI a i = 647) = False := eq_false (by unfold rI; omega)
theorem ne_k647_rI {a i : Nat} : (647 = rI a i) = False := eq_false (by unfold rI; omega)
theorem ne_rI_k648 {a i : Nat} : (rI a i = 648) = False := eq_false (by unfold rI; omega)
theorem ne_k648_rI {a i : Nat} : (648 = rI a i) = False := eq_false (by unfold rI; omega)
theorem ne_rI_k649 {a i : Nat} : (rI a i = 649) = False := eq_false (by unfold rI; omega)
theorem ne_k649_rI {a i : Nat} : (649 = rI a i) = False := eq_false (by unfold rI; omega)
theorem ne_rI_k650 {a i : Nat} : (rI a i = 650) = False := eq_false (by unfold rI; omega)
theorem ne_k650_rI {a i : Nat} : (650 = rI a i) = False := eq_false (by unfold rI; omega)
theorem ne_rI_k654 {a i : Nat} : (rI a i = 654) = False := eq_false (by unfold rI; omega)
theorem ne_k654_rI {a i : Nat} : (654 = rI a i) = False := eq_false (by unfold rI; omega)
