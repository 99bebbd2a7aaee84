/-! ===== Sim on two heaps ===== -/
def Sim2 (yx ym : Nat) (ax am : List Value) : Prop := ∀ i x m, i < 512 → Inv i (mix x m) → ∃ r x' m', ex yx 0 ax [] x = some (some (.int r), x') ∧ ex ym 0 am [] m = some (some (.int r), m') ∧ Inv (i + 1) (mix x' m')
theorem Sim_of2 {yx ym : Nat} {ax am : List Value} (h1 : ax.all (okv PX) = true) (h2 : am.all (okv PM) = true) (S : Sim2 yx ym ax am) : Sim yx ym ax am := by
  intro i h hi I
  obtain ⟨r, x', m', e1, e2, I2⟩ := S i h h hi (by rw [mix_self]; exact I)
  exact ⟨r, x', mix x' m', e1, pair_run h1 h2 e1 e2, I2⟩
section MIX
variable {x m : Hp}
theorem mix_hx {k j : Nat} {v : Int32} (hk : k < 600 ∨ 700 ≤ k) : mix (hu x k j v) m = hu (mix x m) k j v := by
  funext a b
  by_cases ha : 600 ≤ a ∧ a < 700
  · rw [mix_M ha, hu_k (by omega), mix_M ha]
  · rw [mix_X (by omega), hu_if, hu_if, mix_X (by omega)]
theorem mix_hm {k j : Nat} {v : Int32} (hk : 600 ≤ k ∧ k < 700) : mix x (hu m k j v) = hu (mix x m) k j v := by
  funext a b
  by_cases ha : 600 ≤ a ∧ a < 700
  · rw [mix_M ha, hu_if, hu_if, mix_M ha]
  · rw [mix_X (by omega), hu_k (by omega), mix_X (by omega)]
theorem mix_sI {s j : Nat} : mix x m (sI s j) = x (sI s j) := mix_X (by unfold sI; omega)
theorem mix_cI {s j : Nat} : mix x m (cI s j) = x (cI s j) := mix_X (by unfold cI; omega)
theorem mix_rI {s j : Nat} : mix x m (rI s j) = x (rI s j) := mix_X (by unfold rI; omega)
theorem mix_0 : mix x m 0 = x 0 := mix_X (by decide)
theorem mix_1 : mix x m 1 = x 1 := mix_X (by decide)
theorem mix_2 : mix x m 2 = x 2 := mix_X (by decide)
theorem mix_3 : mix x m 3 = x 3 := mix_X (by decide)
theorem mix_4 : mix x m 4 = x 4 := mix_X (by decide)
theorem mix_5 : mix x m 5 = x 5 := mix_X (by decide)
theorem mix_6 : mix x m 6 = x 6 := mix_X (by decide)
theorem mix_7 : mix x m 7 = x 7 := mix_X (by decide)
theorem mix_8 : mix x m 8 = x 8 := mix_X (by decide)
theorem mix_9 : mix x m 9 = x 9 := mix_X (by decide)
theorem mix_10 : mix x m 10 = x 10 := mix_X (by decide)
theorem mix_11 : mix x m 11 = x 11 := mix_X (by decide)
theorem mix_12 : mix x m 12 = x 12 := mix_X (by decide)
theorem mix_13 : mix x m 13 = x 13 := mix_X (by decide)
theorem mix_14 : mix x m 14 = x 14 := mix_X (by decide)
theorem mix_15 : mix x m 15 = x 15 := mix_X (by decide)
theorem mix_16 : mix x m 16 = x 16 := mix_X (by decide)
theorem mix_600 : mix x m 600 = m 600 := mix_M (by decide)
theorem mix_609 : mix x m 609 = m 609 := mix_M (by decide)
theorem mix_610 : mix x m 610 = m 610 := mix_M (by decide)
theorem mix_611 : mix x m 611 = m 611 := mix_M (by decide)
theorem mix_612 : mix x m 612 = m 612 := mix_M (by decide)
theorem mix_613 : mix x m 613 = m 613 := mix_M (by decide)
theorem mix_614 : mix x m 614 = m 614 := mix_M (by decide)
theorem mix_615 : mix x m 615 = m 615 := mix_M (by decide)
theorem mix_616 : mix x m 616 = m 616 := mix_M (by decide)
theorem mix_617 : mix x m 617 = m 617 := mix_M (by decide)
theorem mix_618 : mix x m 618 = m 618 := mix_M (by decide)
theorem mix_619 : mix x m 619 = m 619 := mix_M (by decide)
theorem mix_620 : mix x m 620 = m 620 := mix_M (by decide)
theorem mix_621 : mix x m 621 = m 621 := mix_M (by decide)
theorem mix_622 : mix x m 622 = m 622 := mix_M (by decide)
theorem mix_623 : mix x m 623 = m 623 := mix_M (by decide)
theorem mix_624 : mix x m 624 = m 624 := mix_M (by decide)
theorem mix_625 : mix x m 625 = m 625 := mix_M (by decide)
theorem mix_626 : mix x m 626 = m 626 := mix_M (by decide)
theorem mix_627 : mix x m 627 = m 627 := mix_M (by decide)
theorem mix_628 : mix x m 628 = m 628 := mix_M (by decide)
theorem mix_629 : mix x m 629 = m 629 := mix_M (by decide)
theorem mix_630 : mix x m 630 = m 630 := mix_M (by decide)
theorem mix_631 : mix x m 631 = m 631 := mix_M (by decide)
theorem mix_632 : mix x m 632 = m 632 := mix_M (by decide)
theorem mix_633 : mix x m 633 = m 633 := mix_M (by decide)
theorem mix_634 : mix x m 634 = m 634 := mix_M (by decide)
theorem mix_635 : mix x m 635 = m 635 := mix_M (by decide)
theorem mix_636 : mix x m 636 = m 636 := mix_M (by decide)
theorem mix_637 : mix x m 637 = m 637 := mix_M (by decide)
theorem mix_639 : mix x m 639 = m 639 := mix_M (by decide)
theorem mix_640 : mix x m 640 = m 640 := mix_M (by decide)
theorem mix_641 : mix x m 641 = m 641 := mix_M (by decide)
theorem mix_642 : mix x m 642 = m 642 := mix_M (by decide)
theorem mix_643 : mix x m 643 = m 643 := mix_M (by decide)
theorem mix_644 : mix x m 644 = m 644 := mix_M (by decide)
theorem mix_645 : mix x m 645 = m 645 := mix_M (by decide)
theorem mix_646 : mix x m 646 = m 646 := mix_M (by decide)
theorem mix_647 : mix x m 647 = m 647 := mix_M (by decide)
theorem mix_648 : mix x m 648 = m 648 := mix_M (by decide)
theorem mix_649 : mix x m 649 = m 649 := mix_M (by decide)
theorem mix_650 : mix x m 650 = m 650 := mix_M (by decide)
theorem mix_654 : mix x m 654 = m 654 := mix_M (by decide)
/-- one more refusal on both sides -/
theorem mix_ref {i : Nat} (I : Inv i (mix x m)) (b : Nat) (hb : b < 9) : Inv i (mix (hu x 16 b (x 16 b + 1)) (hu m 650 b (m 650 b + 1))) := by
  have := Inv_ref I b hb
  rw [mix_16, mix_650] at this
  rw [mix_hm (by omega), mix_hx (by omega)]
  exact this
theorem mix_upd {i k j : Nat} {q : Nat × Nat × Int × Int} {v : Int32} (I : Inv i (mix x m)) (hq : tr k j = some q) (hf : fre k j q.1 q.2.1) (h1 : q.2.2.1 ≤ v.toInt) (h2 : v.toInt ≤ q.2.2.2) : Inv i (mix (hu x k j v) (hu m q.1 q.2.1 v)) := by
  obtain ⟨e1, e2, e3⟩ := tr_ok hq
  rw [mix_hm e2, mix_hx e3]
  exact Inv_upd I hq hf h1 h2
end MIX
