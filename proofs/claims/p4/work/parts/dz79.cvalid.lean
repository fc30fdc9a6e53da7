/-! The class's code of a clause: well formed, and as the check has it. -/
theorem cdW_b {da wh n : Nat} {vg : Prop} [Decidable vg] (h8 : wh ≤ 8) (hd : da ≤ 6) (hn : n ≤ 7) : (4 ≤ (cdW da vg wh n).1 ∧ (cdW da vg wh n).1 ≤ 7) ∧ (cdW da vg wh n).2.1 < 16 ∧ (cdW da vg wh n).2.2 < 16 := by
  rcases (show wh = 0 ∨ wh = 1 ∨ wh = 2 ∨ wh = 3 ∨ wh = 4 ∨ wh = 5 ∨ wh = 6 ∨ wh = 7 ∨ wh = 8 by omega) with e | e | e | e | e | e | e | e | e <;> subst e
  · show (4 ≤ 4 ∧ 4 ≤ 7) ∧ (if vg then 1 else n) < 16 ∧ n < 16
    refine ⟨by omega, ?_, by omega⟩
    split <;> omega
  · show (4 ≤ 4 ∧ 4 ≤ 7) ∧ 1 < 16 ∧ n < 16
    omega
  · show (4 ≤ 4 ∧ 4 ≤ 7) ∧ n < 16 ∧ da < 16
    omega
  · show (4 ≤ 4 ∧ 4 ≤ 7) ∧ 1 < 16 ∧ da < 16
    omega
  · show (4 ≤ 5 ∧ 5 ≤ 7) ∧ 0 < 16 ∧ 0 < 16
    omega
  · show (4 ≤ 5 ∧ 5 ≤ 7) ∧ n < 16 ∧ n < 16
    omega
  · show (4 ≤ 5 ∧ 5 ≤ 7) ∧ 0 < 16 ∧ n < 16
    omega
  · show (4 ≤ 6 ∧ 6 ≤ 7) ∧ n < 16 ∧ 0 < 16
    omega
  · show (4 ≤ 7 ∧ 7 ≤ 7) ∧ n < 16 ∧ 0 < 16
    omega
theorem cc_cd_f {w a b c d : Nat} (hw : w < 16) (ha : a < 16) (hb : b < 16) (hc : c < 16) (hd : d < 16) : cc_cd w a b c d < 1048576 ∧ cc_cd w a b c d % 16 = w ∧ cc_cd w a b c d / 16 % 16 = a ∧ cc_cd w a b c d / 256 % 16 = b ∧ cc_cd w a b c d / 4096 % 16 = c ∧ cc_cd w a b c d / 65536 % 16 = d := by
  unfold cc_cd
  omega
theorem trC_n {da who e wh n : Nat} {vg : Int} (h1 : who < 8) (h2 : e < 4) (h3 : wh < 16) (h4 : n < 8) : trC da vg (sp_cc (who : Int) (e : Int) (wh : Int) (n : Int)).toNat = cc_cd (cdW da (¬ vg = 0) wh n).1 who e (cdW da (¬ vg = 0) wh n).2.1 (cdW da (¬ vg = 0) wh n).2.2 := by
  obtain ⟨q, e1, e2, e3, e4⟩ := sp_cc_f h1 h2 h3 h4
  rw [q, Int.toNat_natCast]
  unfold trC
  rw [e1, e2, e3, e4]
theorem cok_of {da pe ev : Nat} {vg z : Int} (bld : da ≤ 6 ∧ pe ≤ 4 ∧ ev ≤ 4) (h : okz da pe ev z) : cokX pe ev da (trC da vg z.toNat) ∧ 4 ≤ trC da vg z.toNat % 16 := by
  obtain ⟨who, e, wh, n, rfl, ⟨k1, k2, k3, k4, k5, k6⟩, h3, h4, h5, h6⟩ := h
  rw [trC_n (by omega) k2 (by omega) (by omega)]
  obtain ⟨⟨b1, b2⟩, b3, b4⟩ := cdW_b (da := da) (wh := wh) (n := n) (vg := ¬ vg = 0) k3 bld.1 k4
  obtain ⟨f0, f1, f2, f3, f4, f5⟩ := cc_cd_f (w := (cdW da (¬ vg = 0) wh n).1) (a := who) (b := e) (c := (cdW da (¬ vg = 0) wh n).2.1) (d := (cdW da (¬ vg = 0) wh n).2.2) (by omega) (by omega) (by omega) b3 b4
  refine ⟨⟨f0, Or.inr ?_⟩, by rw [f1]; exact b1⟩
  rw [f1, f2, f3, f4, f5]
  refine ⟨b1, b2, fun q => ?_, fun q => ?_, h4, fun q => ?_, fun q => ?_⟩
  · rcases (show wh = 0 ∨ wh = 1 ∨ wh = 2 ∨ wh = 3 ∨ wh = 4 ∨ wh = 5 ∨ wh = 6 ∨ 7 ≤ wh by omega) with w | w | w | w | w | w | w | w
    · subst w; exact absurd (show 6 ≤ 4 from q) (by omega)
    · subst w; exact absurd (show 6 ≤ 4 from q) (by omega)
    · subst w; exact absurd (show 6 ≤ 4 from q) (by omega)
    · subst w; exact absurd (show 6 ≤ 4 from q) (by omega)
    · subst w; exact absurd (show 6 ≤ 5 from q) (by omega)
    · subst w; exact absurd (show 6 ≤ 5 from q) (by omega)
    · subst w; exact absurd (show 6 ≤ 5 from q) (by omega)
    · have z := k5 w
      rcases (show wh = 7 ∨ wh = 8 by omega) with x | x <;> subst x
      · exact ⟨z.1, z.2⟩
      · exact ⟨z.1, z.2⟩
  · by_cases w : wh ≤ 6
    · exact ⟨k1, h3 w⟩
    · exfalso
      rcases (show wh = 7 ∨ wh = 8 by omega) with x | x <;> subst x
      · exact absurd (show 6 ≤ 5 from q) (by omega)
      · exact absurd (show 7 ≤ 5 from q) (by omega)
  · rcases (show wh = 0 ∨ wh = 1 ∨ wh = 2 ∨ wh = 3 ∨ wh = 4 ∨ wh = 5 ∨ wh = 6 ∨ wh = 7 ∨ wh = 8 by omega) with w | w | w | w | w | w | w | w | w <;> subst w
    · have z := k6 (by omega)
      show 1 ≤ (if ¬ vg = 0 then 1 else n) ∧ n ≤ da ∧ (if ¬ vg = 0 then 1 else n) ≤ n + 1
      split <;> omega
    · have z := k6 (by omega)
      show 1 ≤ 1 ∧ n ≤ da ∧ 1 ≤ n + 1
      omega
    · have z := k6 (by omega)
      show 1 ≤ n ∧ da ≤ da ∧ n ≤ da + 1
      omega
    · show 1 ≤ 1 ∧ da ≤ da ∧ 1 ≤ da + 1
      omega
    · exact absurd (show (5 : Nat) = 4 from q) (by omega)
    · exact absurd (show (5 : Nat) = 4 from q) (by omega)
    · exact absurd (show (5 : Nat) = 4 from q) (by omega)
    · exact absurd (show (6 : Nat) = 4 from q) (by omega)
    · exact absurd (show (7 : Nat) = 4 from q) (by omega)
  · rcases (show wh = 0 ∨ wh = 1 ∨ wh = 2 ∨ wh = 3 ∨ wh = 4 ∨ wh = 5 ∨ wh = 6 ∨ wh = 7 ∨ wh = 8 by omega) with w | w | w | w | w | w | w | w | w <;> subst w
    · exact absurd (show (4 : Nat) = 5 from q) (by omega)
    · exact absurd (show (4 : Nat) = 5 from q) (by omega)
    · exact absurd (show (4 : Nat) = 5 from q) (by omega)
    · exact absurd (show (4 : Nat) = 5 from q) (by omega)
    · show 0 ≤ 0 + 1 ∧ 0 ≤ 6
      omega
    · have z := h6 (by omega)
      show n ≤ n + 1 ∧ n ≤ 6
      omega
    · have z := h6 (by omega)
      show 0 ≤ n + 1 ∧ n ≤ 6
      omega
    · exact absurd (show (6 : Nat) = 5 from q) (by omega)
    · exact absurd (show (7 : Nat) = 5 from q) (by omega)
/-- what a clause's number says of a future -/
def hclD (da pe ev : Nat) (vg : Int) (f : Nat) (z : Int) : Bool := hC (fun k => ((dg ev (da * pe) f k : Nat) : Int)) pe ev da (¬ vg = 0) (z.toNat / 512) (z.toNat / 128 % 4) (z.toNat / 8 % 16) (z.toNat % 8)
theorem hclD_cc {da pe ev f who e wh n : Nat} {vg : Int} (h1 : who < 8) (h2 : e < 4) (h3 : wh < 16) (h4 : n < 8) : hclD da pe ev vg f (sp_cc (who : Int) (e : Int) (wh : Int) (n : Int)) = hC (fun k => ((dg ev (da * pe) f k : Nat) : Int)) pe ev da (¬ vg = 0) who e wh n := by
  obtain ⟨q, e1, e2, e3, e4⟩ := sp_cc_f h1 h2 h3 h4
  unfold hclD
  rw [q, Int.toNat_natCast, e1, e2, e3, e4]
theorem cval_hC {W : Nat → Nat → Int} {n T da pe ev f : Nat} {vg z : Int} (bld : da ≤ 6 ∧ pe ≤ 4 ∧ ev ≤ 4) (hW : bw_W W n T da pe ev) (hn : T ≤ 64 * n) (hf : f < T) (h : okz da pe ev z) : cval W pe ev da (f / 64) (f % 64) (trC da vg z.toNat) = hclD da pe ev vg f z := by
  obtain ⟨who, e, wh, nn, rfl, hk, h3, h4, h5, h6⟩ := h
  have hk' := hk
  obtain ⟨k1, k2, k3, k4, k5, k6⟩ := hk
  rw [trC_n (by omega) k2 (by omega) (by omega), hclD_cc (by omega) k2 (by omega) (by omega)]
  obtain ⟨⟨b1, b2⟩, b3, b4⟩ := cdW_b (da := da) (wh := wh) (n := nn) (vg := ¬ vg = 0) k3 bld.1 k4
  obtain ⟨f0, f1, f2, f3, f4, f5⟩ := cc_cd_f (w := (cdW da (¬ vg = 0) wh nn).1) (a := who) (b := e) (c := (cdW da (¬ vg = 0) wh nn).2.1) (d := (cdW da (¬ vg = 0) wh nn).2.2) (by omega) (by omega) (by omega) b3 b4
  unfold cval
  rw [f1, f2, f3, f4, f5, if_neg (by omega)]
  refine dcl_hC hk' h3 (fun p hp d hd1 hd2 => ?_)
  show yb (W (ev * (pe * (d - 1) + p) + e) (f / 64)) (f % 64) = decide (0 < ev ∧ (fun k => ((dg ev (da * pe) f k : Nat) : Int)) (pe * (d - 1) + p) = (e : Int))
  rw [(hW (d - 1) p e (by omega) hp h4 (f / 64) (by omega)).2 (f % 64) (Nat.mod_lt _ (by omega))]
  apply decide_eq_decide.2
  show _ ↔ 0 < ev ∧ ((dg ev (da * pe) f (pe * (d - 1) + p) : Nat) : Int) = (e : Int)
  unfold dg
  rw [show 64 * (f / 64) + f % 64 = f by omega]
  generalize f / ev ^ (da * pe - 1 - (pe * (d - 1) + p)) % ev = q
  omega
