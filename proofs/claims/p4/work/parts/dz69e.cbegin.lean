/-! The class: a land's story begins; the price of a new land. -/
theorem p_beginS {d : Nat} {I L : Nat → Nat → Int} {R : Nat → Nat → Option Nat} {Y : (Nat → Nat) × (Nat → Nat) × Nat} (hA : at_T R Y) {q pr : Nat} (hq : 58 ≤ q) (h17 : I q 17 = (pr : Int)) (bn : pr ≤ 5) (hR : R q 5 = some (q + 6)) : yi_P zi_Ms d 277 [.inr (.inr (some 50)), .inr (.inr (some q))] (I, L, R, Y) (fun r => ∃ I' R', r = (none, (I', L, R', Y), 0, 0) ∧ R' 50 5 = none ∧ (I' 50 6 = 0 ∧ I' 50 7 = 1 ∧ I' 50 8 = 0) ∧ (∀ k, k < 24 → I' 53 k = -1) ∧ (∀ k : Nat, k < 5 → I' 52 k = if 0 ≤ (k : Int) ∧ (k : Int) < (pr : Int) then I (q + 6) k else -1) ∧ (∀ p k, ¬ (p = 50 ∨ p = 52 ∨ p = 53) → I' p k = I p k) ∧ (∀ p k, ¬ (p = 50 ∧ k = 5) → R' p k = R p k)) := by
  refine yi_P_of (M := zi_m277) rfl (fun d k => ?_)
  show yi_D zi_Ms d zi_m277 k (0, [(0, .inr (.inr (some 50))), (1, .inr (.inr (some q)))], [], (I, L, R, Y), 0, 0) _
  refine yi_D_run 2 (2, [(0, .inr (.inr (some 50))), (1, .inr (.inr (some q)))], [.inr (.inr none), .inr (.inr (some 50))], (I, L, R, Y), 0, 0) (fun _ => rfl) ?_
  refine yi_D_prw rfl (fun _ => ?_)
  generalize w2 : cl_u R 50 5 none = R1
  refine yi_D_run 2 (7, [(0, .inr (.inr (some 50))), (1, .inr (.inr (some q)))], [.inl 0, .inr (.inr (some 50))], (I, L, R1, Y), 0, 0) (fun _ => rfl) ?_
  refine yi_D_pi rfl (fun _ => ?_)
  generalize w4 : yi_u I 50 6 0 = I3
  refine yi_D_run 2 (12, [(0, .inr (.inr (some 50))), (1, .inr (.inr (some q)))], [.inl 1, .inr (.inr (some 50))], (I3, L, R1, Y), 0, 0) (fun _ => rfl) ?_
  refine yi_D_pi rfl (fun _ => ?_)
  generalize w6 : yi_u I3 50 7 1 = I5
  refine yi_D_run 2 (17, [(0, .inr (.inr (some 50))), (1, .inr (.inr (some q)))], [.inl 0, .inr (.inr (some 50))], (I5, L, R1, Y), 0, 0) (fun _ => rfl) ?_
  refine yi_D_pi rfl (fun _ => ?_)
  generalize w8 : yi_u I5 50 8 0 = I7
  refine yi_D_run 1 (21, [(0, .inr (.inr (some 50))), (1, .inr (.inr (some q)))], [.inr (.inr (some 50))], (I7, L, R1, Y), 0, 0) (fun _ => rfl) ?_
  have r9 : R1 50 2 = some 53 := by rw [← w2, cl_u_ne _ _ (by omega), (at_r hA (j := 34) rfl)]
  refine yi_D_gr (v := some 53) rfl rfl rfl r9 (fun _ => ?_)
  refine yi_D_run 1 (25, [(0, .inr (.inr (some 50))), (1, .inr (.inr (some q)))], [.inl (-1), .inr (.inr (some 53))], (I7, L, R1, Y), 0, 0) (fun _ => rfl) ?_
  refine yi_D_calls rfl (p_fillI ⟨by omega, by rw [at_n hA (j := 14) rfl]; omega⟩) ?_
  rintro _ ⟨I10, rfl, hv11, hf12⟩
  show yi_D zi_Ms d zi_m277 k (28, [(0, .inr (.inr (some 50))), (1, .inr (.inr (some q)))], [], (I10, L, R1, Y), 0, 0) _
  refine yi_D_run 2 (30, [(2, .inl 0), (0, .inr (.inr (some 50))), (1, .inr (.inr (some q)))], [], (I10, L, R1, Y), 0, 0) (fun _ => rfl) ?_
  have pt30 : ∀ j30, j30 ≤ k → ∀ (y2 : Int) (J1 : Nat → Nat → Int), (0 ≤ y2 ∧ y2 ≤ 5) → (∀ k : Nat, (k : Int) < y2 → J1 52 k = if 0 ≤ (k : Int) ∧ (k : Int) < (pr : Int) then I (q + 6) k else -1) → (∀ p k : Nat, ¬ p = 52 → J1 p k = I10 p k) → yi_D zi_Ms d zi_m277 j30 (30, [(2, .inl y2), (0, .inr (.inr (some 50))), (1, .inr (.inr (some q)))], [], (J1, L, R1, Y), 0, 0) (fun r => ∃ I' R', r = (none, (I', L, R', Y), 0, 0) ∧ R' 50 5 = none ∧ (I' 50 6 = 0 ∧ I' 50 7 = 1 ∧ I' 50 8 = 0) ∧ (∀ k, k < 24 → I' 53 k = -1) ∧ (∀ k : Nat, k < 5 → I' 52 k = if 0 ≤ (k : Int) ∧ (k : Int) < (pr : Int) then I (q + 6) k else -1) ∧ (∀ p k, ¬ (p = 50 ∨ p = 52 ∨ p = 53) → I' p k = I p k) ∧ (∀ p k, ¬ (p = 50 ∧ k = 5) → R' p k = R p k)) := by
    intro j30
    induction j30 with
    | zero => intros; exact yi_D_0
    | succ j30 ih30 =>
    intro hk30 y2 J1 hy2 hvJ1 hfJ1
    refine yi_D_run1 1 (32, [(2, .inl y2), (0, .inr (.inr (some 50))), (1, .inr (.inr (some q)))], [.inr (.inr (some 50)), .inl y2], (J1, L, R1, Y), 0, 0) (fun _ => rfl) ?_
    have r13 : R1 50 1 = some 52 := by rw [← w2, cl_u_ne _ _ (by omega), (at_r hA (j := 33) rfl)]
    refine yi_D_gr (v := some 52) rfl rfl rfl r13 (fun _ => ?_)
    refine yi_D_len (v := 5) rfl rfl (at_ni hA (j := 13) rfl) ?_
    by_cases h14 : 5 ≤ y2
    · refine yi_D_if2 true rfl (yi_ge_t h14) ?_
      refine yi_D_retv rfl ?_
      have hy5 : y2 = 5 := by omega
      exact ⟨_, _, rfl, by rw [← w2, cl_u_eq], ⟨by rw [hfJ1 50 6 (by omega), hf12 50 6 (by omega), ← w8, yi_u_ne _ _ (by omega), ← w6, yi_u_ne _ _ (by omega), ← w4, yi_u_eq], by rw [hfJ1 50 7 (by omega), hf12 50 7 (by omega), ← w8, yi_u_ne _ _ (by omega), ← w6, yi_u_eq], by rw [hfJ1 50 8 (by omega), hf12 50 8 (by omega), ← w8, yi_u_eq]⟩, fun k hk => by rw [hfJ1 53 k (by omega)]; exact hv11 k (by rw [at_n hA (j := 14) rfl]; exact hk), fun k hk => hvJ1 k (by omega), fun p k h => by rw [hfJ1 p k (by omega), hf12 p k (by omega), ← w8, yi_u_ne _ _ (by omega), ← w6, yi_u_ne _ _ (by omega), ← w4, yi_u_ne _ _ (by omega)], fun p k h => by rw [← w2, cl_u_ne _ _ (by omega)]⟩
    · refine yi_D_if2 false rfl (yi_ge_f h14) ?_
      refine yi_D_run 1 (40, [(2, .inl y2), (0, .inr (.inr (some 50))), (1, .inr (.inr (some q)))], [.inr (.inr (some 50))], (J1, L, R1, Y), 0, 0) (fun _ => rfl) ?_
      have r15 : R1 50 1 = some 52 := by rw [← w2, cl_u_ne _ _ (by omega), (at_r hA (j := 33) rfl)]
      refine yi_D_gr (v := some 52) rfl rfl rfl r15 (fun _ => ?_)
      refine yi_D_run 3 (46, [(2, .inl y2), (0, .inr (.inr (some 50))), (1, .inr (.inr (some q)))], [.inl y2, .inr (.inr (some q)), .inl y2, .inr (.inr (some 52))], (J1, L, R1, Y), 0, 0) (fun _ => rfl) ?_
      have r16 : J1 q 17 = (pr : Int) := by rw [hfJ1 q 17 (by omega), hf12 q 17 (by omega), ← w8, yi_u_ne _ _ (by omega), ← w6, yi_u_ne _ _ (by omega), ← w4, yi_u_ne _ _ (by omega), h17]
      have r17 : R1 q 5 = some (q + 6) := by rw [← w2, cl_u_ne _ _ (by omega), hR]
      refine yi_D_callv rfl (p_purseOf (x := y2) (n := (pr : Int)) (by omega) (r16) (by omega) (r17)) ?_
      rintro _ rfl
      show yi_D zi_Ms d zi_m277 j30 (49, [(2, .inl y2), (0, .inr (.inr (some 50))), (1, .inr (.inr (some q)))], [.inl (if 0 ≤ y2 ∧ y2 < (pr : Int) then J1 (q + 6) y2.toNat else -1), .inl y2, .inr (.inr (some 52))], (J1, L, R1, Y), 0, 0) _
      refine yi_D_is rfl (fun _ _ => ?_)
      generalize w19 : yi_u J1 52 (y2.toNat) (if 0 ≤ y2 ∧ y2 < (pr : Int) then J1 (q + 6) y2.toNat else -1) = I18
      refine yi_D_iinc [(2, .inl (y2 + 1)), (0, .inr (.inr (some 50))), (1, .inr (.inr (some q)))] rfl rfl rfl (by rw [show yi_w (y2 + 1) = y2 + 1 from (yi_wn (by omega) (by omega)).trans (by omega)]; rfl) ?_
      refine yi_D_run 1 (30, [(2, .inl (y2 + 1)), (0, .inr (.inr (some 50))), (1, .inr (.inr (some q)))], [], (I18, L, R1, Y), 0, 0) (fun _ => rfl) ?_
      exact yi_D_mono (ih30 (by omega) (y2 + 1) I18 (by omega) (fun k hk => by by_cases e : (k : Int) = y2; obtain rfl : k = y2.toNat := (by omega); rw [← w19, yi_u_eq, hfJ1 (q + 6) _ (by omega), hf12 (q + 6) y2.toNat (by omega), ← w8, yi_u_ne _ _ (by omega), ← w6, yi_u_ne _ _ (by omega), ← w4, yi_u_ne _ _ (by omega), show ((y2.toNat : Nat) : Int) = y2 by omega]; rw [← w19, yi_u_ne _ _ (by omega)]; exact hvJ1 k (by omega)) (fun p k h => by rw [← w19, yi_u_ne _ _ (by omega)]; exact hfJ1 p k (by omega))) (by omega)
  exact pt30 k (Nat.le_refl _) 0 I10 (by omega) (fun k hk => absurd hk (by omega)) (fun _ _ _ => rfl)
theorem p_initLandP {d : Nat} {I L : Nat → Nat → Int} {R : Nat → Nat → Option Nat} {Y : (Nat → Nat) × (Nat → Nat) × Nat} {q : Nat} (hq : 20 ≤ q) (hY : Y.2.2 = q + 1) : yi_P zi_Ms d 219 [.inr (.inr (some q))] (I, L, R, Y) (fun r => ∃ I' L' R' Y' n m, r = (none, (I', L', R', Y'), n, m) ∧ R' q 12 = some (q + 13) ∧ Y'.1 (q + 13) = 20 ∧ Y'.2.1 (q + 13) = 1 ∧ I' (q + 13) 0 = 258 ∧ (Y'.1 q = Y.1 q ∧ (∀ j, 1 ≤ j → j ≤ 13 → Y'.1 (q + j) = if j ≤ 3 then 21 else 20) ∧ (Y'.2.1 (q + 9) = 4 ∧ Y'.2.1 (q + 10) = 4 ∧ Y'.2.1 (q + 11) = 6 ∧ Y'.2.1 (q + 12) = 6))) := by
  refine yi_P_of (M := zi_m219) rfl (fun d k => ?_)
  show yi_D zi_Ms d zi_m219 k (0, [(0, .inr (.inr (some q)))], [], (I, L, R, Y), 0, 0) _
  refine yi_D_run 4 (6, [(0, .inr (.inr (some q)))], [.inl 4, .inr (.inr (some q))], (I, L, R, Y), 0, 0) (fun _ => rfl) ?_
  refine yi_D_nwa3 rfl (fun q1 I2 L3 R4 Y5 m6 mk7 mn8 ml9 my10 => ?_)
  obtain ⟨k11, k12, k13, k14, k15, k16⟩ := mk7
  have q1q : q1 = Y.2.2 := k11
  have q1n := k16
  refine yi_D_prw rfl (fun _ => ?_)
  generalize w18 : cl_u R4 q 0 (some q1) = R17
  refine yi_D_run 2 (13, [(0, .inr (.inr (some q)))], [.inl 4, .inr (.inr (some q))], (I2, L3, R17, Y5), (0 + 1), m6) (fun _ => rfl) ?_
  refine yi_D_nwa3 rfl (fun q19 I20 L21 R22 Y23 m24 mk25 mn26 ml27 my28 => ?_)
  obtain ⟨k29, k30, k31, k32, k33, k34⟩ := mk25
  have q19q : q19 = Y5.2.2 := k29
  have q19n := k34
  refine yi_D_prw rfl (fun _ => ?_)
  generalize w36 : cl_u R22 q 1 (some q19) = R35
  refine yi_D_run 2 (20, [(0, .inr (.inr (some q)))], [.inl 5, .inr (.inr (some q))], (I20, L21, R35, Y23), ((0 + 1) + 1), m24) (fun _ => rfl) ?_
  refine yi_D_nwa3 rfl (fun q37 I38 L39 R40 Y41 m42 mk43 mn44 ml45 my46 => ?_)
  obtain ⟨k47, k48, k49, k50, k51, k52⟩ := mk43
  have q37q : q37 = Y23.2.2 := k47
  have q37n := k52
  refine yi_D_prw rfl (fun _ => ?_)
  generalize w54 : cl_u R40 q 2 (some q37) = R53
  refine yi_D_run 2 (27, [(0, .inr (.inr (some q)))], [.inl 4, .inr (.inr (some q))], (I38, L39, R53, Y41), (((0 + 1) + 1) + 1), m42) (fun _ => rfl) ?_
  refine yi_D_nwa3 rfl (fun q55 I56 L57 R58 Y59 m60 mk61 mn62 ml63 my64 => ?_)
  obtain ⟨k65, k66, k67, k68, k69, k70⟩ := mk61
  have q55q : q55 = Y41.2.2 := k65
  have q55n := k70
  refine yi_D_prw rfl (fun _ => ?_)
  generalize w72 : cl_u R58 q 3 (some q55) = R71
  refine yi_D_run 2 (34, [(0, .inr (.inr (some q)))], [.inl 5, .inr (.inr (some q))], (I56, L57, R71, Y59), ((((0 + 1) + 1) + 1) + 1), m60) (fun _ => rfl) ?_
  refine yi_D_nwa3 rfl (fun q73 I74 L75 R76 Y77 m78 mk79 mn80 ml81 my82 => ?_)
  obtain ⟨k83, k84, k85, k86, k87, k88⟩ := mk79
  have q73q : q73 = Y59.2.2 := k83
  have q73n := k88
  refine yi_D_prw rfl (fun _ => ?_)
  generalize w90 : cl_u R76 q 4 (some q73) = R89
  refine yi_D_run 2 (41, [(0, .inr (.inr (some q)))], [.inl 5, .inr (.inr (some q))], (I74, L75, R89, Y77), (((((0 + 1) + 1) + 1) + 1) + 1), m78) (fun _ => rfl) ?_
  refine yi_D_nwa3 rfl (fun q91 I92 L93 R94 Y95 m96 mk97 mn98 ml99 my100 => ?_)
  obtain ⟨k101, k102, k103, k104, k105, k106⟩ := mk97
  have q91q : q91 = Y77.2.2 := k101
  have q91n := k106
  refine yi_D_prw rfl (fun _ => ?_)
  generalize w108 : cl_u R94 q 5 (some q91) = R107
  refine yi_D_run 2 (49, [(0, .inr (.inr (some q)))], [.inl 6, .inr (.inr (some q))], (I92, L93, R107, Y95), ((((((0 + 1) + 1) + 1) + 1) + 1) + 1), m96) (fun _ => rfl) ?_
  refine yi_D_nwa3 rfl (fun q109 I110 L111 R112 Y113 m114 mk115 mn116 ml117 my118 => ?_)
  obtain ⟨k119, k120, k121, k122, k123, k124⟩ := mk115
  have q109q : q109 = Y95.2.2 := k119
  have q109n := k124
  refine yi_D_prw rfl (fun _ => ?_)
  generalize w126 : cl_u R112 q 6 (some q109) = R125
  refine yi_D_run 2 (57, [(0, .inr (.inr (some q)))], [.inl 6, .inr (.inr (some q))], (I110, L111, R125, Y113), (((((((0 + 1) + 1) + 1) + 1) + 1) + 1) + 1), m114) (fun _ => rfl) ?_
  refine yi_D_nwa3 rfl (fun q127 I128 L129 R130 Y131 m132 mk133 mn134 ml135 my136 => ?_)
  obtain ⟨k137, k138, k139, k140, k141, k142⟩ := mk133
  have q127q : q127 = Y113.2.2 := k137
  have q127n := k142
  refine yi_D_prw rfl (fun _ => ?_)
  generalize w144 : cl_u R130 q 7 (some q127) = R143
  refine yi_D_run 2 (64, [(0, .inr (.inr (some q)))], [.inl 4, .inr (.inr (some q))], (I128, L129, R143, Y131), ((((((((0 + 1) + 1) + 1) + 1) + 1) + 1) + 1) + 1), m132) (fun _ => rfl) ?_
  refine yi_D_nwa3 rfl (fun q145 I146 L147 R148 Y149 m150 mk151 mn152 ml153 my154 => ?_)
  obtain ⟨k155, k156, k157, k158, k159, k160⟩ := mk151
  have q145q : q145 = Y131.2.2 := k155
  have q145n := k160
  refine yi_D_prw rfl (fun _ => ?_)
  generalize w162 : cl_u R148 q 8 (some q145) = R161
  refine yi_D_run 2 (71, [(0, .inr (.inr (some q)))], [.inl 4, .inr (.inr (some q))], (I146, L147, R161, Y149), (((((((((0 + 1) + 1) + 1) + 1) + 1) + 1) + 1) + 1) + 1), m150) (fun _ => rfl) ?_
  refine yi_D_nwa3 rfl (fun q163 I164 L165 R166 Y167 m168 mk169 mn170 ml171 my172 => ?_)
  obtain ⟨k173, k174, k175, k176, k177, k178⟩ := mk169
  have q163q : q163 = Y149.2.2 := k173
  have q163n := k178
  refine yi_D_prw rfl (fun _ => ?_)
  generalize w180 : cl_u R166 q 9 (some q163) = R179
  refine yi_D_run 2 (79, [(0, .inr (.inr (some q)))], [.inl 6, .inr (.inr (some q))], (I164, L165, R179, Y167), ((((((((((0 + 1) + 1) + 1) + 1) + 1) + 1) + 1) + 1) + 1) + 1), m168) (fun _ => rfl) ?_
  refine yi_D_nwa3 rfl (fun q181 I182 L183 R184 Y185 m186 mk187 mn188 ml189 my190 => ?_)
  obtain ⟨k191, k192, k193, k194, k195, k196⟩ := mk187
  have q181q : q181 = Y167.2.2 := k191
  have q181n := k196
  refine yi_D_prw rfl (fun _ => ?_)
  generalize w198 : cl_u R184 q 10 (some q181) = R197
  refine yi_D_run 2 (87, [(0, .inr (.inr (some q)))], [.inl 6, .inr (.inr (some q))], (I182, L183, R197, Y185), (((((((((((0 + 1) + 1) + 1) + 1) + 1) + 1) + 1) + 1) + 1) + 1) + 1), m186) (fun _ => rfl) ?_
  refine yi_D_nwa3 rfl (fun q199 I200 L201 R202 Y203 m204 mk205 mn206 ml207 my208 => ?_)
  obtain ⟨k209, k210, k211, k212, k213, k214⟩ := mk205
  have q199q : q199 = Y185.2.2 := k209
  have q199n := k214
  refine yi_D_prw rfl (fun _ => ?_)
  generalize w216 : cl_u R202 q 11 (some q199) = R215
  refine yi_D_run 2 (94, [(0, .inr (.inr (some q)))], [.inl 1, .inr (.inr (some q))], (I200, L201, R215, Y203), ((((((((((((0 + 1) + 1) + 1) + 1) + 1) + 1) + 1) + 1) + 1) + 1) + 1) + 1), m204) (fun _ => rfl) ?_
  refine yi_D_nwa3 rfl (fun q217 I218 L219 R220 Y221 m222 mk223 mn224 ml225 my226 => ?_)
  obtain ⟨k227, k228, k229, k230, k231, k232⟩ := mk223
  have q217q : q217 = Y203.2.2 := k227
  have q217n := k232
  refine yi_D_run 3 (101, [(0, .inr (.inr (some q)))], [.inl 258, .inl 0, .inr (.inr (some q217)), .inr (.inr (some q217)), .inr (.inr (some q))], (I218, L219, R220, Y221), (((((((((((((0 + 1) + 1) + 1) + 1) + 1) + 1) + 1) + 1) + 1) + 1) + 1) + 1) + 1), m222) (fun _ => rfl) ?_
  refine yi_D_is rfl (fun _ _ => ?_)
  show yi_D zi_Ms d zi_m219 k (102, [(0, .inr (.inr (some q)))], [.inr (.inr (some q217)), .inr (.inr (some q))], ((yi_u I218 q217 0 258), L219, R220, Y221), (((((((((((((0 + 1) + 1) + 1) + 1) + 1) + 1) + 1) + 1) + 1) + 1) + 1) + 1) + 1), m222) _
  generalize w234 : yi_u I218 q217 0 258 = I233
  refine yi_D_prw rfl (fun _ => ?_)
  generalize w236 : cl_u R220 q 12 (some q217) = R235
  refine yi_D_run 2 (107, [(0, .inr (.inr (some q)))], [.inl 1, .inr (.inr (some q))], (I233, L219, R235, Y221), (((((((((((((0 + 1) + 1) + 1) + 1) + 1) + 1) + 1) + 1) + 1) + 1) + 1) + 1) + 1), m222) (fun _ => rfl) ?_
  refine yi_D_pi rfl (fun _ => ?_)
  generalize w238 : yi_u I233 q 14 1 = I237
  refine yi_D_retv rfl ?_
  have hq0 : q1 = q + 1 := by omega
  have hq1 : q19 = q + 2 := by omega
  have hq2 : q37 = q + 3 := by omega
  have hq3 : q55 = q + 4 := by omega
  have hq4 : q73 = q + 5 := by omega
  have hq5 : q91 = q + 6 := by omega
  have hq6 : q109 = q + 7 := by omega
  have hq7 : q127 = q + 8 := by omega
  have hq8 : q145 = q + 9 := by omega
  have hq9 : q163 = q + 10 := by omega
  have hq10 : q181 = q + 11 := by omega
  have hq11 : q199 = q + 12 := by omega
  have hq12 : q217 = q + 13 := by omega
  have t0 : Y221.1 q1 = 21 := by
    rw [((fun p hp => k230 p hp) q1 (by omega)).1, ((fun p hp => k212 p hp) q1 (by omega)).1, ((fun p hp => k194 p hp) q1 (by omega)).1, ((fun p hp => k176 p hp) q1 (by omega)).1, ((fun p hp => k158 p hp) q1 (by omega)).1, ((fun p hp => k140 p hp) q1 (by omega)).1, ((fun p hp => k122 p hp) q1 (by omega)).1, ((fun p hp => k104 p hp) q1 (by omega)).1, ((fun p hp => k86 p hp) q1 (by omega)).1, ((fun p hp => k68 p hp) q1 (by omega)).1, ((fun p hp => k50 p hp) q1 (by omega)).1, ((fun p hp => k32 p hp) q1 (by omega)).1]
    exact my10
  have t1 : Y221.1 q19 = 21 := by
    rw [((fun p hp => k230 p hp) q19 (by omega)).1, ((fun p hp => k212 p hp) q19 (by omega)).1, ((fun p hp => k194 p hp) q19 (by omega)).1, ((fun p hp => k176 p hp) q19 (by omega)).1, ((fun p hp => k158 p hp) q19 (by omega)).1, ((fun p hp => k140 p hp) q19 (by omega)).1, ((fun p hp => k122 p hp) q19 (by omega)).1, ((fun p hp => k104 p hp) q19 (by omega)).1, ((fun p hp => k86 p hp) q19 (by omega)).1, ((fun p hp => k68 p hp) q19 (by omega)).1, ((fun p hp => k50 p hp) q19 (by omega)).1]
    exact my28
  have t2 : Y221.1 q37 = 21 := by
    rw [((fun p hp => k230 p hp) q37 (by omega)).1, ((fun p hp => k212 p hp) q37 (by omega)).1, ((fun p hp => k194 p hp) q37 (by omega)).1, ((fun p hp => k176 p hp) q37 (by omega)).1, ((fun p hp => k158 p hp) q37 (by omega)).1, ((fun p hp => k140 p hp) q37 (by omega)).1, ((fun p hp => k122 p hp) q37 (by omega)).1, ((fun p hp => k104 p hp) q37 (by omega)).1, ((fun p hp => k86 p hp) q37 (by omega)).1, ((fun p hp => k68 p hp) q37 (by omega)).1]
    exact my46
  have t3 : Y221.1 q55 = 20 := by
    rw [((fun p hp => k230 p hp) q55 (by omega)).1, ((fun p hp => k212 p hp) q55 (by omega)).1, ((fun p hp => k194 p hp) q55 (by omega)).1, ((fun p hp => k176 p hp) q55 (by omega)).1, ((fun p hp => k158 p hp) q55 (by omega)).1, ((fun p hp => k140 p hp) q55 (by omega)).1, ((fun p hp => k122 p hp) q55 (by omega)).1, ((fun p hp => k104 p hp) q55 (by omega)).1, ((fun p hp => k86 p hp) q55 (by omega)).1]
    exact my64
  have t4 : Y221.1 q73 = 20 := by
    rw [((fun p hp => k230 p hp) q73 (by omega)).1, ((fun p hp => k212 p hp) q73 (by omega)).1, ((fun p hp => k194 p hp) q73 (by omega)).1, ((fun p hp => k176 p hp) q73 (by omega)).1, ((fun p hp => k158 p hp) q73 (by omega)).1, ((fun p hp => k140 p hp) q73 (by omega)).1, ((fun p hp => k122 p hp) q73 (by omega)).1, ((fun p hp => k104 p hp) q73 (by omega)).1]
    exact my82
  have t5 : Y221.1 q91 = 20 := by
    rw [((fun p hp => k230 p hp) q91 (by omega)).1, ((fun p hp => k212 p hp) q91 (by omega)).1, ((fun p hp => k194 p hp) q91 (by omega)).1, ((fun p hp => k176 p hp) q91 (by omega)).1, ((fun p hp => k158 p hp) q91 (by omega)).1, ((fun p hp => k140 p hp) q91 (by omega)).1, ((fun p hp => k122 p hp) q91 (by omega)).1]
    exact my100
  have t6 : Y221.1 q109 = 20 := by
    rw [((fun p hp => k230 p hp) q109 (by omega)).1, ((fun p hp => k212 p hp) q109 (by omega)).1, ((fun p hp => k194 p hp) q109 (by omega)).1, ((fun p hp => k176 p hp) q109 (by omega)).1, ((fun p hp => k158 p hp) q109 (by omega)).1, ((fun p hp => k140 p hp) q109 (by omega)).1]
    exact my118
  have t7 : Y221.1 q127 = 20 := by
    rw [((fun p hp => k230 p hp) q127 (by omega)).1, ((fun p hp => k212 p hp) q127 (by omega)).1, ((fun p hp => k194 p hp) q127 (by omega)).1, ((fun p hp => k176 p hp) q127 (by omega)).1, ((fun p hp => k158 p hp) q127 (by omega)).1]
    exact my136
  have t8 : Y221.1 q145 = 20 := by
    rw [((fun p hp => k230 p hp) q145 (by omega)).1, ((fun p hp => k212 p hp) q145 (by omega)).1, ((fun p hp => k194 p hp) q145 (by omega)).1, ((fun p hp => k176 p hp) q145 (by omega)).1]
    exact my154
  have l8 : Y221.2.1 q145 = 4 := by
    rw [((fun p hp => k230 p hp) q145 (by omega)).2, ((fun p hp => k212 p hp) q145 (by omega)).2, ((fun p hp => k194 p hp) q145 (by omega)).2, ((fun p hp => k176 p hp) q145 (by omega)).2]
    exact k159
  have t9 : Y221.1 q163 = 20 := by
    rw [((fun p hp => k230 p hp) q163 (by omega)).1, ((fun p hp => k212 p hp) q163 (by omega)).1, ((fun p hp => k194 p hp) q163 (by omega)).1]
    exact my172
  have l9 : Y221.2.1 q163 = 4 := by
    rw [((fun p hp => k230 p hp) q163 (by omega)).2, ((fun p hp => k212 p hp) q163 (by omega)).2, ((fun p hp => k194 p hp) q163 (by omega)).2]
    exact k177
  have t10 : Y221.1 q181 = 20 := by
    rw [((fun p hp => k230 p hp) q181 (by omega)).1, ((fun p hp => k212 p hp) q181 (by omega)).1]
    exact my190
  have l10 : Y221.2.1 q181 = 6 := by
    rw [((fun p hp => k230 p hp) q181 (by omega)).2, ((fun p hp => k212 p hp) q181 (by omega)).2]
    exact k195
  have t11 : Y221.1 q199 = 20 := by
    rw [((fun p hp => k230 p hp) q199 (by omega)).1]
    exact my208
  have l11 : Y221.2.1 q199 = 6 := by
    rw [((fun p hp => k230 p hp) q199 (by omega)).2]
    exact k213
  have t12 : Y221.1 q217 = 20 := by
    exact my226
  have l12 : Y221.2.1 q217 = 1 := by
    exact k231
  have hv0 : R235 q 12 = some q217 := by rw [← w236, cl_u_eq]
  have hv1 : I237 q217 0 = 258 := by rw [← w238, yi_u_ne _ _ (by omega), ← w234, yi_u_eq]
  rw [hq0] at t0
  rw [hq1] at t1
  rw [hq2] at t2
  rw [hq3] at t3
  rw [hq4] at t4
  rw [hq5] at t5
  rw [hq6] at t6
  rw [hq7] at t7
  rw [hq8] at t8
  rw [hq8] at l8
  rw [hq9] at t9
  rw [hq9] at l9
  rw [hq10] at t10
  rw [hq10] at l10
  rw [hq11] at t11
  rw [hq11] at l11
  rw [hq12] at t12
  rw [hq12] at l12
  rw [hq12] at hv0 hv1
  refine ⟨_, _, _, _, _, _, rfl, hv0, t12, l12, hv1, by rw [((fun p hp => k230 p hp) q (by omega)).1, ((fun p hp => k212 p hp) q (by omega)).1, ((fun p hp => k194 p hp) q (by omega)).1, ((fun p hp => k176 p hp) q (by omega)).1, ((fun p hp => k158 p hp) q (by omega)).1, ((fun p hp => k140 p hp) q (by omega)).1, ((fun p hp => k122 p hp) q (by omega)).1, ((fun p hp => k104 p hp) q (by omega)).1, ((fun p hp => k86 p hp) q (by omega)).1, ((fun p hp => k68 p hp) q (by omega)).1, ((fun p hp => k50 p hp) q (by omega)).1, ((fun p hp => k32 p hp) q (by omega)).1, ((fun p hp => k14 p hp) q (by omega)).1], fun j h1 h2 => ?_, l8, l9, l10, l11⟩
  have hj : j = 1 ∨ j = 2 ∨ j = 3 ∨ j = 4 ∨ j = 5 ∨ j = 6 ∨ j = 7 ∨ j = 8 ∨ j = 9 ∨ j = 10 ∨ j = 11 ∨ j = 12 ∨ j = 13 := by omega
  rcases hj with rfl | rfl | rfl | rfl | rfl | rfl | rfl | rfl | rfl | rfl | rfl | rfl | rfl
  · exact t0
  · exact t1
  · exact t2
  · exact t3
  · exact t4
  · exact t5
  · exact t6
  · exact t7
  · exact t8
  · exact t9
  · exact t10
  · exact t11
  · exact t12
