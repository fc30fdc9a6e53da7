/-! How often the blocks can be cut. -/
def cl_s2 (b : Int) : Int := if b < 2 then 0 else if b < 4 then 1 else if b < 8 then 2 else if b < 16 then 3 else if b < 32 then 4 else if b < 64 then 5 else if b < 128 then 6 else if b < 256 then 7 else if b < 512 then 8 else if b < 1024 then 9 else if b < 2048 then 10 else if b < 4096 then 11 else if b < 8192 then 12 else if b < 16384 then 13 else if b < 32768 then 14 else 15
theorem cl_s2_b (b : Int) : 0 ≤ cl_s2 b ∧ cl_s2 b ≤ 15 := by
  unfold cl_s2
  (repeat (split; · omega)); omega
theorem cl_s2_s {b : Int} (h : 1 ≤ b / 2) (hb : b ≤ 32769) : cl_s2 b = cl_s2 (b / 2) + 1 := by
  rcases (show (2 ≤ b ∧ b < 4) ∨ (4 ≤ b ∧ b < 8) ∨ (8 ≤ b ∧ b < 16) ∨ (16 ≤ b ∧ b < 32) ∨ (32 ≤ b ∧ b < 64) ∨ (64 ≤ b ∧ b < 128) ∨ (128 ≤ b ∧ b < 256) ∨ (256 ≤ b ∧ b < 512) ∨ (512 ≤ b ∧ b < 1024) ∨ (1024 ≤ b ∧ b < 2048) ∨ (2048 ≤ b ∧ b < 4096) ∨ (4096 ≤ b ∧ b < 8192) ∨ (8192 ≤ b ∧ b < 16384) ∨ (16384 ≤ b ∧ b < 32768) ∨ (32768 ≤ b ∧ b < 65536) by omega) with z | z | z | z | z | z | z | z | z | z | z | z | z | z | z
  · unfold cl_s2
    rw [if_neg (show ¬ b < 2 by omega), if_pos (show b < 4 by omega), if_pos (show b / 2 < 2 by omega)]
    rfl
  · unfold cl_s2
    rw [if_neg (show ¬ b < 2 by omega), if_neg (show ¬ b < 4 by omega), if_pos (show b < 8 by omega), if_neg (show ¬ b / 2 < 2 by omega), if_pos (show b / 2 < 4 by omega)]
    rfl
  · unfold cl_s2
    rw [if_neg (show ¬ b < 2 by omega), if_neg (show ¬ b < 4 by omega), if_neg (show ¬ b < 8 by omega), if_pos (show b < 16 by omega), if_neg (show ¬ b / 2 < 2 by omega), if_neg (show ¬ b / 2 < 4 by omega), if_pos (show b / 2 < 8 by omega)]
    rfl
  · unfold cl_s2
    rw [if_neg (show ¬ b < 2 by omega), if_neg (show ¬ b < 4 by omega), if_neg (show ¬ b < 8 by omega), if_neg (show ¬ b < 16 by omega), if_pos (show b < 32 by omega), if_neg (show ¬ b / 2 < 2 by omega), if_neg (show ¬ b / 2 < 4 by omega), if_neg (show ¬ b / 2 < 8 by omega), if_pos (show b / 2 < 16 by omega)]
    rfl
  · unfold cl_s2
    rw [if_neg (show ¬ b < 2 by omega), if_neg (show ¬ b < 4 by omega), if_neg (show ¬ b < 8 by omega), if_neg (show ¬ b < 16 by omega), if_neg (show ¬ b < 32 by omega), if_pos (show b < 64 by omega), if_neg (show ¬ b / 2 < 2 by omega), if_neg (show ¬ b / 2 < 4 by omega), if_neg (show ¬ b / 2 < 8 by omega), if_neg (show ¬ b / 2 < 16 by omega), if_pos (show b / 2 < 32 by omega)]
    rfl
  · unfold cl_s2
    rw [if_neg (show ¬ b < 2 by omega), if_neg (show ¬ b < 4 by omega), if_neg (show ¬ b < 8 by omega), if_neg (show ¬ b < 16 by omega), if_neg (show ¬ b < 32 by omega), if_neg (show ¬ b < 64 by omega), if_pos (show b < 128 by omega), if_neg (show ¬ b / 2 < 2 by omega), if_neg (show ¬ b / 2 < 4 by omega), if_neg (show ¬ b / 2 < 8 by omega), if_neg (show ¬ b / 2 < 16 by omega), if_neg (show ¬ b / 2 < 32 by omega), if_pos (show b / 2 < 64 by omega)]
    rfl
  · unfold cl_s2
    rw [if_neg (show ¬ b < 2 by omega), if_neg (show ¬ b < 4 by omega), if_neg (show ¬ b < 8 by omega), if_neg (show ¬ b < 16 by omega), if_neg (show ¬ b < 32 by omega), if_neg (show ¬ b < 64 by omega), if_neg (show ¬ b < 128 by omega), if_pos (show b < 256 by omega), if_neg (show ¬ b / 2 < 2 by omega), if_neg (show ¬ b / 2 < 4 by omega), if_neg (show ¬ b / 2 < 8 by omega), if_neg (show ¬ b / 2 < 16 by omega), if_neg (show ¬ b / 2 < 32 by omega), if_neg (show ¬ b / 2 < 64 by omega), if_pos (show b / 2 < 128 by omega)]
    rfl
  · unfold cl_s2
    rw [if_neg (show ¬ b < 2 by omega), if_neg (show ¬ b < 4 by omega), if_neg (show ¬ b < 8 by omega), if_neg (show ¬ b < 16 by omega), if_neg (show ¬ b < 32 by omega), if_neg (show ¬ b < 64 by omega), if_neg (show ¬ b < 128 by omega), if_neg (show ¬ b < 256 by omega), if_pos (show b < 512 by omega), if_neg (show ¬ b / 2 < 2 by omega), if_neg (show ¬ b / 2 < 4 by omega), if_neg (show ¬ b / 2 < 8 by omega), if_neg (show ¬ b / 2 < 16 by omega), if_neg (show ¬ b / 2 < 32 by omega), if_neg (show ¬ b / 2 < 64 by omega), if_neg (show ¬ b / 2 < 128 by omega), if_pos (show b / 2 < 256 by omega)]
    rfl
  · unfold cl_s2
    rw [if_neg (show ¬ b < 2 by omega), if_neg (show ¬ b < 4 by omega), if_neg (show ¬ b < 8 by omega), if_neg (show ¬ b < 16 by omega), if_neg (show ¬ b < 32 by omega), if_neg (show ¬ b < 64 by omega), if_neg (show ¬ b < 128 by omega), if_neg (show ¬ b < 256 by omega), if_neg (show ¬ b < 512 by omega), if_pos (show b < 1024 by omega), if_neg (show ¬ b / 2 < 2 by omega), if_neg (show ¬ b / 2 < 4 by omega), if_neg (show ¬ b / 2 < 8 by omega), if_neg (show ¬ b / 2 < 16 by omega), if_neg (show ¬ b / 2 < 32 by omega), if_neg (show ¬ b / 2 < 64 by omega), if_neg (show ¬ b / 2 < 128 by omega), if_neg (show ¬ b / 2 < 256 by omega), if_pos (show b / 2 < 512 by omega)]
    rfl
  · unfold cl_s2
    rw [if_neg (show ¬ b < 2 by omega), if_neg (show ¬ b < 4 by omega), if_neg (show ¬ b < 8 by omega), if_neg (show ¬ b < 16 by omega), if_neg (show ¬ b < 32 by omega), if_neg (show ¬ b < 64 by omega), if_neg (show ¬ b < 128 by omega), if_neg (show ¬ b < 256 by omega), if_neg (show ¬ b < 512 by omega), if_neg (show ¬ b < 1024 by omega), if_pos (show b < 2048 by omega), if_neg (show ¬ b / 2 < 2 by omega), if_neg (show ¬ b / 2 < 4 by omega), if_neg (show ¬ b / 2 < 8 by omega), if_neg (show ¬ b / 2 < 16 by omega), if_neg (show ¬ b / 2 < 32 by omega), if_neg (show ¬ b / 2 < 64 by omega), if_neg (show ¬ b / 2 < 128 by omega), if_neg (show ¬ b / 2 < 256 by omega), if_neg (show ¬ b / 2 < 512 by omega), if_pos (show b / 2 < 1024 by omega)]
    rfl
  · unfold cl_s2
    rw [if_neg (show ¬ b < 2 by omega), if_neg (show ¬ b < 4 by omega), if_neg (show ¬ b < 8 by omega), if_neg (show ¬ b < 16 by omega), if_neg (show ¬ b < 32 by omega), if_neg (show ¬ b < 64 by omega), if_neg (show ¬ b < 128 by omega), if_neg (show ¬ b < 256 by omega), if_neg (show ¬ b < 512 by omega), if_neg (show ¬ b < 1024 by omega), if_neg (show ¬ b < 2048 by omega), if_pos (show b < 4096 by omega), if_neg (show ¬ b / 2 < 2 by omega), if_neg (show ¬ b / 2 < 4 by omega), if_neg (show ¬ b / 2 < 8 by omega), if_neg (show ¬ b / 2 < 16 by omega), if_neg (show ¬ b / 2 < 32 by omega), if_neg (show ¬ b / 2 < 64 by omega), if_neg (show ¬ b / 2 < 128 by omega), if_neg (show ¬ b / 2 < 256 by omega), if_neg (show ¬ b / 2 < 512 by omega), if_neg (show ¬ b / 2 < 1024 by omega), if_pos (show b / 2 < 2048 by omega)]
    rfl
  · unfold cl_s2
    rw [if_neg (show ¬ b < 2 by omega), if_neg (show ¬ b < 4 by omega), if_neg (show ¬ b < 8 by omega), if_neg (show ¬ b < 16 by omega), if_neg (show ¬ b < 32 by omega), if_neg (show ¬ b < 64 by omega), if_neg (show ¬ b < 128 by omega), if_neg (show ¬ b < 256 by omega), if_neg (show ¬ b < 512 by omega), if_neg (show ¬ b < 1024 by omega), if_neg (show ¬ b < 2048 by omega), if_neg (show ¬ b < 4096 by omega), if_pos (show b < 8192 by omega), if_neg (show ¬ b / 2 < 2 by omega), if_neg (show ¬ b / 2 < 4 by omega), if_neg (show ¬ b / 2 < 8 by omega), if_neg (show ¬ b / 2 < 16 by omega), if_neg (show ¬ b / 2 < 32 by omega), if_neg (show ¬ b / 2 < 64 by omega), if_neg (show ¬ b / 2 < 128 by omega), if_neg (show ¬ b / 2 < 256 by omega), if_neg (show ¬ b / 2 < 512 by omega), if_neg (show ¬ b / 2 < 1024 by omega), if_neg (show ¬ b / 2 < 2048 by omega), if_pos (show b / 2 < 4096 by omega)]
    rfl
  · unfold cl_s2
    rw [if_neg (show ¬ b < 2 by omega), if_neg (show ¬ b < 4 by omega), if_neg (show ¬ b < 8 by omega), if_neg (show ¬ b < 16 by omega), if_neg (show ¬ b < 32 by omega), if_neg (show ¬ b < 64 by omega), if_neg (show ¬ b < 128 by omega), if_neg (show ¬ b < 256 by omega), if_neg (show ¬ b < 512 by omega), if_neg (show ¬ b < 1024 by omega), if_neg (show ¬ b < 2048 by omega), if_neg (show ¬ b < 4096 by omega), if_neg (show ¬ b < 8192 by omega), if_pos (show b < 16384 by omega), if_neg (show ¬ b / 2 < 2 by omega), if_neg (show ¬ b / 2 < 4 by omega), if_neg (show ¬ b / 2 < 8 by omega), if_neg (show ¬ b / 2 < 16 by omega), if_neg (show ¬ b / 2 < 32 by omega), if_neg (show ¬ b / 2 < 64 by omega), if_neg (show ¬ b / 2 < 128 by omega), if_neg (show ¬ b / 2 < 256 by omega), if_neg (show ¬ b / 2 < 512 by omega), if_neg (show ¬ b / 2 < 1024 by omega), if_neg (show ¬ b / 2 < 2048 by omega), if_neg (show ¬ b / 2 < 4096 by omega), if_pos (show b / 2 < 8192 by omega)]
    rfl
  · unfold cl_s2
    rw [if_neg (show ¬ b < 2 by omega), if_neg (show ¬ b < 4 by omega), if_neg (show ¬ b < 8 by omega), if_neg (show ¬ b < 16 by omega), if_neg (show ¬ b < 32 by omega), if_neg (show ¬ b < 64 by omega), if_neg (show ¬ b < 128 by omega), if_neg (show ¬ b < 256 by omega), if_neg (show ¬ b < 512 by omega), if_neg (show ¬ b < 1024 by omega), if_neg (show ¬ b < 2048 by omega), if_neg (show ¬ b < 4096 by omega), if_neg (show ¬ b < 8192 by omega), if_neg (show ¬ b < 16384 by omega), if_pos (show b < 32768 by omega), if_neg (show ¬ b / 2 < 2 by omega), if_neg (show ¬ b / 2 < 4 by omega), if_neg (show ¬ b / 2 < 8 by omega), if_neg (show ¬ b / 2 < 16 by omega), if_neg (show ¬ b / 2 < 32 by omega), if_neg (show ¬ b / 2 < 64 by omega), if_neg (show ¬ b / 2 < 128 by omega), if_neg (show ¬ b / 2 < 256 by omega), if_neg (show ¬ b / 2 < 512 by omega), if_neg (show ¬ b / 2 < 1024 by omega), if_neg (show ¬ b / 2 < 2048 by omega), if_neg (show ¬ b / 2 < 4096 by omega), if_neg (show ¬ b / 2 < 8192 by omega), if_pos (show b / 2 < 16384 by omega)]
    rfl
  · unfold cl_s2
    rw [if_neg (show ¬ b < 2 by omega), if_neg (show ¬ b < 4 by omega), if_neg (show ¬ b < 8 by omega), if_neg (show ¬ b < 16 by omega), if_neg (show ¬ b < 32 by omega), if_neg (show ¬ b < 64 by omega), if_neg (show ¬ b < 128 by omega), if_neg (show ¬ b < 256 by omega), if_neg (show ¬ b < 512 by omega), if_neg (show ¬ b < 1024 by omega), if_neg (show ¬ b < 2048 by omega), if_neg (show ¬ b < 4096 by omega), if_neg (show ¬ b < 8192 by omega), if_neg (show ¬ b < 16384 by omega), if_neg (show ¬ b < 32768 by omega), if_neg (show ¬ b / 2 < 2 by omega), if_neg (show ¬ b / 2 < 4 by omega), if_neg (show ¬ b / 2 < 8 by omega), if_neg (show ¬ b / 2 < 16 by omega), if_neg (show ¬ b / 2 < 32 by omega), if_neg (show ¬ b / 2 < 64 by omega), if_neg (show ¬ b / 2 < 128 by omega), if_neg (show ¬ b / 2 < 256 by omega), if_neg (show ¬ b / 2 < 512 by omega), if_neg (show ¬ b / 2 < 1024 by omega), if_neg (show ¬ b / 2 < 2048 by omega), if_neg (show ¬ b / 2 < 4096 by omega), if_neg (show ¬ b / 2 < 8192 by omega), if_neg (show ¬ b / 2 < 16384 by omega), if_pos (show b / 2 < 32768 by omega)]
    rfl
def cl_s3 (b : Int) : Int := if b < 3 then 0 else if b < 9 then 1 else if b < 27 then 2 else if b < 81 then 3 else if b < 243 then 4 else if b < 729 then 5 else if b < 2187 then 6 else if b < 6561 then 7 else if b < 19683 then 8 else 9
theorem cl_s3_b (b : Int) : 0 ≤ cl_s3 b ∧ cl_s3 b ≤ 9 := by
  unfold cl_s3
  (repeat (split; · omega)); omega
theorem cl_s3_s {b : Int} (h : 1 ≤ b / 3) (hb : b ≤ 32769) : cl_s3 b = cl_s3 (b / 3) + 1 := by
  rcases (show (3 ≤ b ∧ b < 9) ∨ (9 ≤ b ∧ b < 27) ∨ (27 ≤ b ∧ b < 81) ∨ (81 ≤ b ∧ b < 243) ∨ (243 ≤ b ∧ b < 729) ∨ (729 ≤ b ∧ b < 2187) ∨ (2187 ≤ b ∧ b < 6561) ∨ (6561 ≤ b ∧ b < 19683) ∨ (19683 ≤ b ∧ b < 59049) by omega) with z | z | z | z | z | z | z | z | z
  · unfold cl_s3
    rw [if_neg (show ¬ b < 3 by omega), if_pos (show b < 9 by omega), if_pos (show b / 3 < 3 by omega)]
    rfl
  · unfold cl_s3
    rw [if_neg (show ¬ b < 3 by omega), if_neg (show ¬ b < 9 by omega), if_pos (show b < 27 by omega), if_neg (show ¬ b / 3 < 3 by omega), if_pos (show b / 3 < 9 by omega)]
    rfl
  · unfold cl_s3
    rw [if_neg (show ¬ b < 3 by omega), if_neg (show ¬ b < 9 by omega), if_neg (show ¬ b < 27 by omega), if_pos (show b < 81 by omega), if_neg (show ¬ b / 3 < 3 by omega), if_neg (show ¬ b / 3 < 9 by omega), if_pos (show b / 3 < 27 by omega)]
    rfl
  · unfold cl_s3
    rw [if_neg (show ¬ b < 3 by omega), if_neg (show ¬ b < 9 by omega), if_neg (show ¬ b < 27 by omega), if_neg (show ¬ b < 81 by omega), if_pos (show b < 243 by omega), if_neg (show ¬ b / 3 < 3 by omega), if_neg (show ¬ b / 3 < 9 by omega), if_neg (show ¬ b / 3 < 27 by omega), if_pos (show b / 3 < 81 by omega)]
    rfl
  · unfold cl_s3
    rw [if_neg (show ¬ b < 3 by omega), if_neg (show ¬ b < 9 by omega), if_neg (show ¬ b < 27 by omega), if_neg (show ¬ b < 81 by omega), if_neg (show ¬ b < 243 by omega), if_pos (show b < 729 by omega), if_neg (show ¬ b / 3 < 3 by omega), if_neg (show ¬ b / 3 < 9 by omega), if_neg (show ¬ b / 3 < 27 by omega), if_neg (show ¬ b / 3 < 81 by omega), if_pos (show b / 3 < 243 by omega)]
    rfl
  · unfold cl_s3
    rw [if_neg (show ¬ b < 3 by omega), if_neg (show ¬ b < 9 by omega), if_neg (show ¬ b < 27 by omega), if_neg (show ¬ b < 81 by omega), if_neg (show ¬ b < 243 by omega), if_neg (show ¬ b < 729 by omega), if_pos (show b < 2187 by omega), if_neg (show ¬ b / 3 < 3 by omega), if_neg (show ¬ b / 3 < 9 by omega), if_neg (show ¬ b / 3 < 27 by omega), if_neg (show ¬ b / 3 < 81 by omega), if_neg (show ¬ b / 3 < 243 by omega), if_pos (show b / 3 < 729 by omega)]
    rfl
  · unfold cl_s3
    rw [if_neg (show ¬ b < 3 by omega), if_neg (show ¬ b < 9 by omega), if_neg (show ¬ b < 27 by omega), if_neg (show ¬ b < 81 by omega), if_neg (show ¬ b < 243 by omega), if_neg (show ¬ b < 729 by omega), if_neg (show ¬ b < 2187 by omega), if_pos (show b < 6561 by omega), if_neg (show ¬ b / 3 < 3 by omega), if_neg (show ¬ b / 3 < 9 by omega), if_neg (show ¬ b / 3 < 27 by omega), if_neg (show ¬ b / 3 < 81 by omega), if_neg (show ¬ b / 3 < 243 by omega), if_neg (show ¬ b / 3 < 729 by omega), if_pos (show b / 3 < 2187 by omega)]
    rfl
  · unfold cl_s3
    rw [if_neg (show ¬ b < 3 by omega), if_neg (show ¬ b < 9 by omega), if_neg (show ¬ b < 27 by omega), if_neg (show ¬ b < 81 by omega), if_neg (show ¬ b < 243 by omega), if_neg (show ¬ b < 729 by omega), if_neg (show ¬ b < 2187 by omega), if_neg (show ¬ b < 6561 by omega), if_pos (show b < 19683 by omega), if_neg (show ¬ b / 3 < 3 by omega), if_neg (show ¬ b / 3 < 9 by omega), if_neg (show ¬ b / 3 < 27 by omega), if_neg (show ¬ b / 3 < 81 by omega), if_neg (show ¬ b / 3 < 243 by omega), if_neg (show ¬ b / 3 < 729 by omega), if_neg (show ¬ b / 3 < 2187 by omega), if_pos (show b / 3 < 6561 by omega)]
    rfl
  · unfold cl_s3
    rw [if_neg (show ¬ b < 3 by omega), if_neg (show ¬ b < 9 by omega), if_neg (show ¬ b < 27 by omega), if_neg (show ¬ b < 81 by omega), if_neg (show ¬ b < 243 by omega), if_neg (show ¬ b < 729 by omega), if_neg (show ¬ b < 2187 by omega), if_neg (show ¬ b < 6561 by omega), if_neg (show ¬ b < 19683 by omega), if_neg (show ¬ b / 3 < 3 by omega), if_neg (show ¬ b / 3 < 9 by omega), if_neg (show ¬ b / 3 < 27 by omega), if_neg (show ¬ b / 3 < 81 by omega), if_neg (show ¬ b / 3 < 243 by omega), if_neg (show ¬ b / 3 < 729 by omega), if_neg (show ¬ b / 3 < 2187 by omega), if_neg (show ¬ b / 3 < 6561 by omega), if_pos (show b / 3 < 19683 by omega)]
    rfl
def cl_s4 (b : Int) : Int := if b < 4 then 0 else if b < 16 then 1 else if b < 64 then 2 else if b < 256 then 3 else if b < 1024 then 4 else if b < 4096 then 5 else if b < 16384 then 6 else 7
theorem cl_s4_b (b : Int) : 0 ≤ cl_s4 b ∧ cl_s4 b ≤ 7 := by
  unfold cl_s4
  (repeat (split; · omega)); omega
theorem cl_s4_s {b : Int} (h : 1 ≤ b / 4) (hb : b ≤ 32769) : cl_s4 b = cl_s4 (b / 4) + 1 := by
  rcases (show (4 ≤ b ∧ b < 16) ∨ (16 ≤ b ∧ b < 64) ∨ (64 ≤ b ∧ b < 256) ∨ (256 ≤ b ∧ b < 1024) ∨ (1024 ≤ b ∧ b < 4096) ∨ (4096 ≤ b ∧ b < 16384) ∨ (16384 ≤ b ∧ b < 65536) by omega) with z | z | z | z | z | z | z
  · unfold cl_s4
    rw [if_neg (show ¬ b < 4 by omega), if_pos (show b < 16 by omega), if_pos (show b / 4 < 4 by omega)]
    rfl
  · unfold cl_s4
    rw [if_neg (show ¬ b < 4 by omega), if_neg (show ¬ b < 16 by omega), if_pos (show b < 64 by omega), if_neg (show ¬ b / 4 < 4 by omega), if_pos (show b / 4 < 16 by omega)]
    rfl
  · unfold cl_s4
    rw [if_neg (show ¬ b < 4 by omega), if_neg (show ¬ b < 16 by omega), if_neg (show ¬ b < 64 by omega), if_pos (show b < 256 by omega), if_neg (show ¬ b / 4 < 4 by omega), if_neg (show ¬ b / 4 < 16 by omega), if_pos (show b / 4 < 64 by omega)]
    rfl
  · unfold cl_s4
    rw [if_neg (show ¬ b < 4 by omega), if_neg (show ¬ b < 16 by omega), if_neg (show ¬ b < 64 by omega), if_neg (show ¬ b < 256 by omega), if_pos (show b < 1024 by omega), if_neg (show ¬ b / 4 < 4 by omega), if_neg (show ¬ b / 4 < 16 by omega), if_neg (show ¬ b / 4 < 64 by omega), if_pos (show b / 4 < 256 by omega)]
    rfl
  · unfold cl_s4
    rw [if_neg (show ¬ b < 4 by omega), if_neg (show ¬ b < 16 by omega), if_neg (show ¬ b < 64 by omega), if_neg (show ¬ b < 256 by omega), if_neg (show ¬ b < 1024 by omega), if_pos (show b < 4096 by omega), if_neg (show ¬ b / 4 < 4 by omega), if_neg (show ¬ b / 4 < 16 by omega), if_neg (show ¬ b / 4 < 64 by omega), if_neg (show ¬ b / 4 < 256 by omega), if_pos (show b / 4 < 1024 by omega)]
    rfl
  · unfold cl_s4
    rw [if_neg (show ¬ b < 4 by omega), if_neg (show ¬ b < 16 by omega), if_neg (show ¬ b < 64 by omega), if_neg (show ¬ b < 256 by omega), if_neg (show ¬ b < 1024 by omega), if_neg (show ¬ b < 4096 by omega), if_pos (show b < 16384 by omega), if_neg (show ¬ b / 4 < 4 by omega), if_neg (show ¬ b / 4 < 16 by omega), if_neg (show ¬ b / 4 < 64 by omega), if_neg (show ¬ b / 4 < 256 by omega), if_neg (show ¬ b / 4 < 1024 by omega), if_pos (show b / 4 < 4096 by omega)]
    rfl
  · unfold cl_s4
    rw [if_neg (show ¬ b < 4 by omega), if_neg (show ¬ b < 16 by omega), if_neg (show ¬ b < 64 by omega), if_neg (show ¬ b < 256 by omega), if_neg (show ¬ b < 1024 by omega), if_neg (show ¬ b < 4096 by omega), if_neg (show ¬ b < 16384 by omega), if_neg (show ¬ b / 4 < 4 by omega), if_neg (show ¬ b / 4 < 16 by omega), if_neg (show ¬ b / 4 < 64 by omega), if_neg (show ¬ b / 4 < 256 by omega), if_neg (show ¬ b / 4 < 1024 by omega), if_neg (show ¬ b / 4 < 4096 by omega), if_pos (show b / 4 < 16384 by omega)]
    rfl
