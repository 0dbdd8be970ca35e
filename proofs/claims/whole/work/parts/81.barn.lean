theorem st_barn (G : zG) (i : Nat) (w : zh) (hi : i < 1000) (h : Gd i w) : Oki G i mX7_barn mX8_barn [] w := by
  sorry
