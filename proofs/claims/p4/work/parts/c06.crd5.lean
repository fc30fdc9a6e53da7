/-! The class reader: formulas, expressions. -/
section YD
variable {Ms : List zi_M} {d : Nat} {M : zi_M} {k : Nat} {Q : yi_R → Prop} {pc n : Nat} {al : List (Nat × yi_V)} {st : List yi_V} {H : yi_H} {nc ns : Nat}
theorem yi_D_lsw {dd : Int} {ps : Array (Int × Int)} {o : List Nat} {z off : Int} (tgt : Nat) (h1 : zi_lk2 pc M.2.2.2.2.1 = some (.lookupswitch dd ps, n, o)) (ho : Op.lookupswitch.offset ps.toList dd z = off) (ht : (pc : Int) + off = tgt) (hg : yi_D Ms d M k (tgt, al, st, H, nc, ns) Q) : yi_D Ms d M k (pc, al, .inl z :: st, H, nc, ns) Q := yi_D_s _ h1 (fun _ => by
  show ((bif decide (0 ≤ (pc : Int) + Op.lookupswitch.offset ps.toList dd z) then some (.inl (((pc : Int) + Op.lookupswitch.offset ps.toList dd z).toNat, al, st, H, nc, ns)) else none) : yi_O) = _
  rw [ho, ht, decide_eq_true (show (0 : Int) ≤ (tgt : Int) by omega)]
  rfl) hg
end YD
theorem sp_st4 {K P V : Nat → Int} {a dp ef : Nat} {sk : List Nat} {ld : Nat → Int} {nm : Int → Int} {cs : List (Int × Int)} (h : ef = 10 ∨ ef = 11) : sp_step K P V (4, a, dp, (ef + 2) :: sk, ld, nm, cs) = .inl (5, a, dp, ef :: sk, ld, nm, cs ++ [(9, 0)]) := by
  rcases h with rfl | rfl <;> rfl
theorem p_readFormula_s {d : Nat} {I L : Nat → Nat → Int} {R : Nat → Nat → Option Nat} {Y : (Nat → Nat) × (Nat → Nat) × Nat} (hRI : cs_RI d) {K P V : Nat → Int} {te q a : Nat} {ld : Nat → Int} {nm : Int → Int} (hW : cs_W I L R Y K P V te q ld nm) (hf : I 11 11 = 0) (hA : cs_A I L K te a) (dp : Nat) (sk : List Nat) (cs : List (Int × Int)) (hd : dp ≤ 5) : yi_P zi_Ms (d + 1) 256 [.inr (.inr (some 11)), .inl (dp : Int)] (I, L, R, Y) (cs_QR I L R Y K P V te (3, a, dp, 10 :: sk, ld, nm, cs) 7 a dp sk ld nm) := by
  refine yi_P_s (M := zi_m256) rfl (fun k => ?_)
  have jn111f : ∀ (y4 : Int) (y3 : Int) (y2 : Int) (J G : Nat → Nat → Int) (f : Int), cs_F I L J G → J 11 11 = f → ¬ f = 0 → sp_R K P V (3, a, dp, 10 :: sk, ld, nm, cs) (.inr f) → yi_D zi_Ms d zi_m256 k (111, [(4, .inl y4), (3, .inl y3), (2, .inl y2), (0, .inr (.inr (some 11))), (1, .inl (dp : Int))], [], (J, G, R, Y), 0, 0) (cs_QR I L R Y K P V te (3, a, dp, 10 :: sk, ld, nm, cs) 7 a dp sk ld nm) := by
    intro y4 y3 y2 J G f jF je jn jsp 
    have jW := cs_W_t hW jF
    have jf : ¬ J 11 11 = 0 := by rw [je]; exact jn
    have jF1 : ∀ p k, (p ≠ 11 ∧ p ≠ 19) → J p k = I p k := fun p k h => jF.1 p k h.1 h.2
    have jF2 := jF.2
    refine yi_D_run 1 (112, [(4, .inl y4), (3, .inl y3), (2, .inl y2), (0, .inr (.inr (some 11))), (1, .inl (dp : Int))], [.inl y2], (J, G, R, Y), 0, 0) (fun _ => rfl) ?_
    by_cases h1 : y2 = 0
    · refine yi_D_if1 true rfl (yi_eq_t h1) ?_
      refine yi_D_retv rfl ?_
      exact ⟨_, _, rfl, jF, Or.inr ⟨_, jsp, jn, je⟩⟩
    · refine yi_D_if1 false rfl (yi_eq_f h1) ?_
      refine yi_D_run 2 (117, [(4, .inl y4), (3, .inl y3), (2, .inl y2), (0, .inr (.inr (some 11))), (1, .inl (dp : Int))], [.inl 3, .inr (.inr (some 11))], (J, G, R, Y), 0, 0) (fun _ => rfl) ?_
      refine yi_D_callv rfl (p_emit jW) ?_
      rintro _ ⟨I2, rfl, hE3⟩
      have hW4 := cs_W_t jW (cs_E_F (L := G) hE3)
      have hF5 := cs_F_t jF (cs_E_F hE3)
      have hf6 : ¬ I2 11 11 = 0 := by rw [hE3 11 11 (by omega) (by omega)]; exact jf
      have he7 := (hE3 11 11 (by omega) (by omega)).trans je
      show yi_D zi_Ms d zi_m256 k (120, [(4, .inl y4), (3, .inl y3), (2, .inl y2), (0, .inr (.inr (some 11))), (1, .inl (dp : Int))], [], (I2, G, R, Y), 0, 0) _
      refine yi_D_retv rfl ?_
      exact ⟨_, _, rfl, hF5, Or.inr ⟨_, jsp, jn, he7⟩⟩
  have jn9f : ∀ (y4 : Int) (y3 : Int) (y2 : Int) (J G : Nat → Nat → Int) (f : Int), cs_F I L J G → J 11 11 = f → ¬ f = 0 → sp_R K P V (3, a, dp, 10 :: sk, ld, nm, cs) (.inr f) → yi_D zi_Ms d zi_m256 k (9, [(4, .inl y4), (3, .inl y3), (2, .inl y2), (0, .inr (.inr (some 11))), (1, .inl (dp : Int))], [], (J, G, R, Y), 0, 0) (cs_QR I L R Y K P V te (3, a, dp, 10 :: sk, ld, nm, cs) 7 a dp sk ld nm) := by
    intro y4 y3 y2 J G f jF je jn jsp 
    have jW := cs_W_t hW jF
    have jf : ¬ J 11 11 = 0 := by rw [je]; exact jn
    have jF1 : ∀ p k, (p ≠ 11 ∧ p ≠ 19) → J p k = I p k := fun p k h => jF.1 p k h.1 h.2
    have jF2 := jF.2
    refine yi_D_run 2 (13, [(4, .inl y4), (3, .inl y3), (2, .inl y2), (0, .inr (.inr (some 11))), (1, .inl (dp : Int))], [.inl 1000, .inl y3], (J, G, R, Y), 0, 0) (fun _ => rfl) ?_
    by_cases h8 : 1000 ≤ y3
    · refine yi_D_if2 true rfl (yi_ge_t h8) ?_
      exact yi_D_mono (jn111f y4 y3 y2 _ _ _ jF je jn jsp ) (by omega)
    · refine yi_D_if2 false rfl (yi_ge_f h8) ?_
      refine yi_D_run 1 (17, [(4, .inl y4), (3, .inl y3), (2, .inl y2), (0, .inr (.inr (some 11))), (1, .inl (dp : Int))], [.inr (.inr (some 11))], (J, G, R, Y), 0, 0) (fun _ => rfl) ?_
      refine yi_D_gi (v := J 11 11) rfl rfl rfl rfl (fun _ => ?_)
      have h9 : ¬ ((J 11 11) = 0) := by omega
      refine yi_D_if1 true rfl (yi_ne_t h9) ?_
      exact yi_D_mono (jn111f y4 y3 y2 _ _ _ jF je jn jsp ) (by omega)
  have jn105f : ∀ (y4 : Int) (y3 : Int) (y2 : Int) (J G : Nat → Nat → Int) (f : Int), cs_F I L J G → J 11 11 = f → ¬ f = 0 → sp_R K P V (3, a, dp, 10 :: sk, ld, nm, cs) (.inr f) → yi_D zi_Ms d zi_m256 k (105, [(4, .inl y4), (3, .inl y3), (2, .inl y2), (0, .inr (.inr (some 11))), (1, .inl (dp : Int))], [], (J, G, R, Y), 0, 0) (cs_QR I L R Y K P V te (3, a, dp, 10 :: sk, ld, nm, cs) 7 a dp sk ld nm) := by
    intro y4 y3 y2 J G f jF je jn jsp 
    have jW := cs_W_t hW jF
    have jf : ¬ J 11 11 = 0 := by rw [je]; exact jn
    have jF1 : ∀ p k, (p ≠ 11 ∧ p ≠ 19) → J p k = I p k := fun p k h => jF.1 p k h.1 h.2
    have jF2 := jF.2
    refine yi_D_iinc [(3, .inl (yi_w (y3 + 1))), (4, .inl y4), (2, .inl y2), (0, .inr (.inr (some 11))), (1, .inl (dp : Int))] rfl rfl rfl rfl ?_
    refine yi_D_run 1 (9, [(3, .inl (yi_w (y3 + 1))), (4, .inl y4), (2, .inl y2), (0, .inr (.inr (some 11))), (1, .inl (dp : Int))], [], (J, G, R, Y), 0, 0) (fun _ => rfl) ?_
    refine yi_D_al (al := [(4, .inl y4), (3, .inl (yi_w (y3 + 1))), (2, .inl y2), (0, .inr (.inr (some 11))), (1, .inl (dp : Int))]) (show ([4, 3, 2, 0, 1] : List Nat).Nodup by decide) (show ([3, 4, 2, 0, 1] : List Nat).Nodup by decide) (yi_mc (List.mem_of_getElem? (i := 1) rfl) (yi_mc (List.mem_of_getElem? (i := 0) rfl) (yi_mc (List.mem_of_getElem? (i := 2) rfl) (yi_mc (List.mem_of_getElem? (i := 3) rfl) (yi_mc (List.mem_of_getElem? (i := 4) rfl) yi_mn))))) ?_
    exact yi_D_mono (jn9f y4 (yi_w (y3 + 1)) y2 _ _ _ jF je jn jsp ) (by omega)
  show yi_D zi_Ms d zi_m256 k (0, [(0, .inr (.inr (some 11))), (1, .inl (dp : Int))], [], (I, L, R, Y), 0, 0) _
  refine yi_D_run 4 (4, [(2, .inl 0), (0, .inr (.inr (some 11))), (1, .inl (dp : Int))], [.inl (dp : Int), .inr (.inr (some 11))], (I, L, R, Y), 0, 0) (fun _ => rfl) ?_
  refine yi_D_callv rfl (hRI dp (10 :: sk) cs hW hf hA (by omega)) ?_
  rintro _ ⟨I10, L11, rfl, hFr12, (⟨a13, cs14, hR15, lt16, hf17, hA18⟩ | ⟨f19, hR20, hz21, he22⟩)⟩
  · have hW23 := cs_W_t hW hFr12
    have hF24 := hFr12
    have hF25 : ∀ p k, (p ≠ 11 ∧ p ≠ 19) → I10 p k = I p k := fun p k h => hFr12.1 p k h.1 h.2
    have hR26 : sp_R K P V (3, a, dp, 10 :: sk, ld, nm, cs) (.inl (5, a13, dp, 10 :: sk, ld, nm, cs14)) := sp_R_s hR15 rfl
    show yi_D zi_Ms d zi_m256 k (7, [(2, .inl 0), (0, .inr (.inr (some 11))), (1, .inl (dp : Int))], [], (I10, L11, R, Y), 0, 0) _
    refine yi_D_run 2 (9, [(3, .inl 0), (2, .inl 0), (0, .inr (.inr (some 11))), (1, .inl (dp : Int))], [], (I10, L11, R, Y), 0, 0) (fun _ => rfl) ?_
    have pt9 : ∀ j9, j9 ≤ k → ∀ (y3 : Int) (y2 : Int) (y4 : Int) (J1 : Nat → Nat → Int) (G1 : Nat → Nat → Int) (a1 : Nat) (cs1 : List (Int × Int)) (ef : Nat), (0 ≤ y3 ∧ 2 * y3 < (a1 : Int)) → ((y2 = 0 ∧ ef = 10) ∨ (y2 = 1 ∧ ef = 11)) → (a < a1) → (cs_F I L J1 G1) → (J1 11 11 = 0) → (cs_A J1 G1 K te a1) → (sp_R K P V (3, a, dp, 10 :: sk, ld, nm, cs) (.inl (5, a1, dp, ef :: sk, ld, nm, cs1))) → yi_D zi_Ms d zi_m256 j9 (9, [(3, .inl y3), (2, .inl y2), (0, .inr (.inr (some 11))), (1, .inl (dp : Int)), (4, .inl y4)], [], (J1, G1, R, Y), 0, 0) (cs_QR I L R Y K P V te (3, a, dp, 10 :: sk, ld, nm, cs) 7 a dp sk ld nm) := by
      intro j9
      induction j9 with
      | zero => intros; exact yi_D_0
      | succ j9 ih9 =>
      intro hk9 y3 y2 y4 J1 G1 a1 cs1 ef hn9 hef lt9 hF9 hf9 hA9 hR9
      have hW9 := cs_W_t hW hF9
      have hF91 : ∀ p k, (p ≠ 11 ∧ p ≠ 19) → J1 p k = I p k := fun p k h => hF9.1 p k h.1 h.2
      have hle9 := hA9.2.1
      have hte9 := hW.2.1.1
      refine yi_D_run1 1 (13, [(3, .inl y3), (2, .inl y2), (0, .inr (.inr (some 11))), (1, .inl (dp : Int)), (4, .inl y4)], [.inl 1000, .inl y3], (J1, G1, R, Y), 0, 0) (fun _ => rfl) ?_
      have h27 : ¬ (1000 ≤ y3) := by omega
      refine yi_D_if2 false rfl (yi_ge_f h27) ?_
      refine yi_D_run 1 (17, [(3, .inl y3), (2, .inl y2), (0, .inr (.inr (some 11))), (1, .inl (dp : Int)), (4, .inl y4)], [.inr (.inr (some 11))], (J1, G1, R, Y), 0, 0) (fun _ => rfl) ?_
      refine yi_D_gi (v := 0) rfl rfl rfl hf9 (fun _ => ?_)
      refine yi_D_if1 false rfl (by decide) ?_
      refine yi_D_run 1 (24, [(3, .inl y3), (2, .inl y2), (0, .inr (.inr (some 11))), (1, .inl (dp : Int)), (4, .inl y4)], [.inr (.inr (some 11))], (J1, G1, R, Y), 0, 0) (fun _ => rfl) ?_
      refine yi_D_gi (v := K a1) rfl rfl rfl hA9.2.2.1 (fun _ => ?_)
      refine yi_D_run 1 (29, [(3, .inl y3), (2, .inl y2), (0, .inr (.inr (some 11))), (1, .inl (dp : Int)), (4, .inl y4)], [.inl 31, .inl (K a1)], (J1, G1, R, Y), 0, 0) (fun _ => rfl) ?_
      by_cases h28 : (K a1) = 31
      · refine yi_D_if2 true rfl (yi_eq_t h28) ?_
        refine yi_D_run 1 (42, [(3, .inl y3), (2, .inl y2), (0, .inr (.inr (some 11))), (1, .inl (dp : Int)), (4, .inl y4)], [.inr (.inr (some 11))], (J1, G1, R, Y), 0, 0) (fun _ => rfl) ?_
        refine yi_D_gi (v := K a1) rfl rfl rfl hA9.2.2.1 (fun _ => ?_)
        refine yi_D_run 1 (47, [(3, .inl y3), (2, .inl y2), (0, .inr (.inr (some 11))), (1, .inl (dp : Int)), (4, .inl y4)], [.inl 31, .inl (K a1)], (J1, G1, R, Y), 0, 0) (fun _ => rfl) ?_
        have h29 : (K a1) = 31 := by omega
        refine yi_D_if2 false rfl (yi_ne_f h29) ?_
        refine yi_D_run 4 (58, [(4, .inl 1), (3, .inl y3), (2, .inl y2), (0, .inr (.inr (some 11))), (1, .inl (dp : Int))], [.inr (.inr (some 11))], (J1, G1, R, Y), 0, 0) (fun _ => rfl) ?_
        refine yi_D_callv rfl (p_advance_z hW9 hf9 hA9) ?_
        rintro _ ⟨I30, L31, rfl, hGa32, hf33, hA34⟩
        rw [sp_nx_lt (cs_lt hW9.2.1 hA9.2.1 (by omega))] at hA34
        have hA34 : cs_A I30 L31 K te (a1 + 1) := hA34
        have hW35 := cs_W_t hW9 (cs_G_F hGa32)
        have hF36 := cs_F_t hF9 (cs_G_F hGa32)
        show yi_D zi_Ms d zi_m256 j9 (61, [(4, .inl 1), (3, .inl y3), (2, .inl y2), (0, .inr (.inr (some 11))), (1, .inl (dp : Int))], [], (I30, L31, R, Y), 0, 0) _
        refine yi_D_run 1 (63, [(4, .inl 1), (3, .inl y3), (2, .inl y2), (0, .inr (.inr (some 11))), (1, .inl (dp : Int))], [.inl 1], (I30, L31, R, Y), 0, 0) (fun _ => rfl) ?_
        refine yi_D_if1 true rfl (by decide) ?_
        refine yi_D_run 1 (76, [(4, .inl 1), (3, .inl y3), (2, .inl y2), (0, .inr (.inr (some 11))), (1, .inl (dp : Int))], [.inl y2], (I30, L31, R, Y), 0, 0) (fun _ => rfl) ?_
        by_cases h37 : y2 = 0
        · refine yi_D_if1 false rfl (yi_ne_f h37) ?_
          refine yi_D_run 1 (81, [(4, .inl 1), (3, .inl y3), (2, .inl y2), (0, .inr (.inr (some 11))), (1, .inl (dp : Int))], [.inl 1], (I30, L31, R, Y), 0, 0) (fun _ => rfl) ?_
          refine yi_D_if1 true rfl (by decide) ?_
          refine yi_D_run 4 (92, [(2, .inl 0), (4, .inl 1), (3, .inl y3), (0, .inr (.inr (some 11))), (1, .inl (dp : Int))], [.inl (dp : Int), .inr (.inr (some 11))], (I30, L31, R, Y), 0, 0) (fun _ => rfl) ?_
          have hst38 : sp_R K P V (3, a, dp, 10 :: sk, ld, nm, cs) (.inl (3, a1 + 1, dp, (ef + 2) :: sk, ld, nm, cs1)) := sp_R_s hR9 (by
            show (if K a1 = 31 then _ else _) = _
            rw [if_pos (by omega)])
          refine yi_D_callv rfl (hRI dp ((ef + 2) :: sk) cs1 hW35 hf33 hA34 (by omega)) ?_
          rintro _ ⟨I39, L40, rfl, hFr41, (⟨a42, cs43, hR44, lt45, hf46, hA47⟩ | ⟨f48, hR49, hz50, he51⟩)⟩
          · have hW52 := cs_W_t hW35 hFr41
            have hF53 := cs_F_t hF36 hFr41
            have hF54 : ∀ p k, (p ≠ 11 ∧ p ≠ 19) → I39 p k = I30 p k := fun p k h => hFr41.1 p k h.1 h.2
            have hR55 : sp_R K P V (3, a, dp, 10 :: sk, ld, nm, cs) (.inl (5, a42, dp, ef :: sk, ld, nm, cs43 ++ [(9, 0)])) := sp_R_s (sp_R_t hst38 hR44) (sp_st4 (by omega))
            show yi_D zi_Ms d zi_m256 j9 (95, [(2, .inl 0), (4, .inl 1), (3, .inl y3), (0, .inr (.inr (some 11))), (1, .inl (dp : Int))], [], (I39, L40, R, Y), 0, 0) _
            refine yi_D_run 1 (97, [(2, .inl 0), (4, .inl 1), (3, .inl y3), (0, .inr (.inr (some 11))), (1, .inl (dp : Int))], [.inl 1], (I39, L40, R, Y), 0, 0) (fun _ => rfl) ?_
            refine yi_D_if1 false rfl (by decide) ?_
            refine yi_D_run 2 (102, [(2, .inl 0), (4, .inl 1), (3, .inl y3), (0, .inr (.inr (some 11))), (1, .inl (dp : Int))], [.inl 2, .inr (.inr (some 11))], (I39, L40, R, Y), 0, 0) (fun _ => rfl) ?_
            refine yi_D_callv rfl (p_emit hW52) ?_
            rintro _ ⟨I56, rfl, hE57⟩
            have hW58 := cs_W_t hW52 (cs_E_F (L := L40) hE57)
            have hF59 := cs_F_t hF53 (cs_E_F hE57)
            have hf60 : I56 11 11 = 0 := (hE57 11 11 (by omega) (by omega)).trans hf46
            have hA61 := cs_A_e hA47 hE57
            show yi_D zi_Ms d zi_m256 j9 (105, [(2, .inl 0), (4, .inl 1), (3, .inl y3), (0, .inr (.inr (some 11))), (1, .inl (dp : Int))], [], (I56, L40, R, Y), 0, 0) _
            refine yi_D_iinc [(3, .inl (y3 + 1)), (2, .inl 0), (4, .inl 1), (0, .inr (.inr (some 11))), (1, .inl (dp : Int))] rfl rfl rfl (by rw [show yi_w (y3 + 1) = y3 + 1 from (yi_wn (by omega) (by omega)).trans (by omega)]; rfl) ?_
            refine yi_D_run 1 (9, [(3, .inl (y3 + 1)), (2, .inl 0), (4, .inl 1), (0, .inr (.inr (some 11))), (1, .inl (dp : Int))], [], (I56, L40, R, Y), 0, 0) (fun _ => rfl) ?_
            refine yi_D_al (al := [(3, .inl (y3 + 1)), (2, .inl 0), (0, .inr (.inr (some 11))), (1, .inl (dp : Int)), (4, .inl 1)]) (show ([3, 2, 0, 1, 4] : List Nat).Nodup by decide) (show ([3, 2, 4, 0, 1] : List Nat).Nodup by decide) (yi_mc (List.mem_of_getElem? (i := 0) rfl) (yi_mc (List.mem_of_getElem? (i := 1) rfl) (yi_mc (List.mem_of_getElem? (i := 4) rfl) (yi_mc (List.mem_of_getElem? (i := 2) rfl) (yi_mc (List.mem_of_getElem? (i := 3) rfl) yi_mn))))) ?_
            exact yi_D_mono (ih9 (by omega) (y3 + 1) 0 1 I56 L40 a42 (cs43 ++ [(9, 0)]) ef (by omega) (by omega) (by omega) hF59 hf60 hA61 hR55) (by omega)
          · have hW62 := cs_W_t hW35 hFr41
            have hF63 := cs_F_t hF36 hFr41
            have hF64 : ∀ p k, (p ≠ 11 ∧ p ≠ 19) → I39 p k = I30 p k := fun p k h => hFr41.1 p k h.1 h.2
            have hn65 : ¬ I39 11 11 = 0 := by rw [he51]; exact hz50
            have hx66 : sp_R K P V (3, a, dp, 10 :: sk, ld, nm, cs) (.inr f48) := sp_R_t hst38 hR49
            show yi_D zi_Ms d zi_m256 j9 (95, [(2, .inl 0), (4, .inl 1), (3, .inl y3), (0, .inr (.inr (some 11))), (1, .inl (dp : Int))], [], (I39, L40, R, Y), 0, 0) _
            refine yi_D_run 1 (97, [(2, .inl 0), (4, .inl 1), (3, .inl y3), (0, .inr (.inr (some 11))), (1, .inl (dp : Int))], [.inl 1], (I39, L40, R, Y), 0, 0) (fun _ => rfl) ?_
            refine yi_D_if1 false rfl (by decide) ?_
            refine yi_D_run 2 (102, [(2, .inl 0), (4, .inl 1), (3, .inl y3), (0, .inr (.inr (some 11))), (1, .inl (dp : Int))], [.inl 2, .inr (.inr (some 11))], (I39, L40, R, Y), 0, 0) (fun _ => rfl) ?_
            refine yi_D_callv rfl (p_emit hW62) ?_
            rintro _ ⟨I67, rfl, hE68⟩
            have hW69 := cs_W_t hW62 (cs_E_F (L := L40) hE68)
            have hF70 := cs_F_t hF63 (cs_E_F hE68)
            have hf71 : ¬ I67 11 11 = 0 := by rw [hE68 11 11 (by omega) (by omega)]; exact hn65
            have he72 := (hE68 11 11 (by omega) (by omega)).trans he51
            show yi_D zi_Ms d zi_m256 j9 (105, [(2, .inl 0), (4, .inl 1), (3, .inl y3), (0, .inr (.inr (some 11))), (1, .inl (dp : Int))], [], (I67, L40, R, Y), 0, 0) _
            refine yi_D_al (al := [(4, .inl 1), (3, .inl y3), (2, .inl 0), (0, .inr (.inr (some 11))), (1, .inl (dp : Int))]) (show ([4, 3, 2, 0, 1] : List Nat).Nodup by decide) (show ([2, 4, 3, 0, 1] : List Nat).Nodup by decide) (yi_mc (List.mem_of_getElem? (i := 2) rfl) (yi_mc (List.mem_of_getElem? (i := 0) rfl) (yi_mc (List.mem_of_getElem? (i := 1) rfl) (yi_mc (List.mem_of_getElem? (i := 3) rfl) (yi_mc (List.mem_of_getElem? (i := 4) rfl) yi_mn))))) ?_
            exact yi_D_mono (jn105f 1 y3 0 _ _ _ hF70 he72 hz50 hx66 ) (by omega)
        · refine yi_D_if1 true rfl (yi_ne_t h37) ?_
          refine yi_D_run 5 (92, [(2, .inl 1), (4, .inl 1), (3, .inl y3), (0, .inr (.inr (some 11))), (1, .inl (dp : Int))], [.inl (dp : Int), .inr (.inr (some 11))], (I30, L31, R, Y), 0, 0) (fun _ => rfl) ?_
          have hst73 : sp_R K P V (3, a, dp, 10 :: sk, ld, nm, cs) (.inl (3, a1 + 1, dp, (ef + 2) :: sk, ld, nm, cs1)) := sp_R_s hR9 (by
            show (if K a1 = 31 then _ else _) = _
            rw [if_pos (by omega)])
          refine yi_D_callv rfl (hRI dp ((ef + 2) :: sk) cs1 hW35 hf33 hA34 (by omega)) ?_
          rintro _ ⟨I74, L75, rfl, hFr76, (⟨a77, cs78, hR79, lt80, hf81, hA82⟩ | ⟨f83, hR84, hz85, he86⟩)⟩
          · have hW87 := cs_W_t hW35 hFr76
            have hF88 := cs_F_t hF36 hFr76
            have hF89 : ∀ p k, (p ≠ 11 ∧ p ≠ 19) → I74 p k = I30 p k := fun p k h => hFr76.1 p k h.1 h.2
            have hR90 : sp_R K P V (3, a, dp, 10 :: sk, ld, nm, cs) (.inl (5, a77, dp, ef :: sk, ld, nm, cs78 ++ [(9, 0)])) := sp_R_s (sp_R_t hst73 hR79) (sp_st4 (by omega))
            show yi_D zi_Ms d zi_m256 j9 (95, [(2, .inl 1), (4, .inl 1), (3, .inl y3), (0, .inr (.inr (some 11))), (1, .inl (dp : Int))], [], (I74, L75, R, Y), 0, 0) _
            refine yi_D_run 1 (97, [(2, .inl 1), (4, .inl 1), (3, .inl y3), (0, .inr (.inr (some 11))), (1, .inl (dp : Int))], [.inl 1], (I74, L75, R, Y), 0, 0) (fun _ => rfl) ?_
            refine yi_D_if1 false rfl (by decide) ?_
            refine yi_D_run 2 (102, [(2, .inl 1), (4, .inl 1), (3, .inl y3), (0, .inr (.inr (some 11))), (1, .inl (dp : Int))], [.inl 2, .inr (.inr (some 11))], (I74, L75, R, Y), 0, 0) (fun _ => rfl) ?_
            refine yi_D_callv rfl (p_emit hW87) ?_
            rintro _ ⟨I91, rfl, hE92⟩
            have hW93 := cs_W_t hW87 (cs_E_F (L := L75) hE92)
            have hF94 := cs_F_t hF88 (cs_E_F hE92)
            have hf95 : I91 11 11 = 0 := (hE92 11 11 (by omega) (by omega)).trans hf81
            have hA96 := cs_A_e hA82 hE92
            show yi_D zi_Ms d zi_m256 j9 (105, [(2, .inl 1), (4, .inl 1), (3, .inl y3), (0, .inr (.inr (some 11))), (1, .inl (dp : Int))], [], (I91, L75, R, Y), 0, 0) _
            refine yi_D_iinc [(3, .inl (y3 + 1)), (2, .inl 1), (4, .inl 1), (0, .inr (.inr (some 11))), (1, .inl (dp : Int))] rfl rfl rfl (by rw [show yi_w (y3 + 1) = y3 + 1 from (yi_wn (by omega) (by omega)).trans (by omega)]; rfl) ?_
            refine yi_D_run 1 (9, [(3, .inl (y3 + 1)), (2, .inl 1), (4, .inl 1), (0, .inr (.inr (some 11))), (1, .inl (dp : Int))], [], (I91, L75, R, Y), 0, 0) (fun _ => rfl) ?_
            refine yi_D_al (al := [(3, .inl (y3 + 1)), (2, .inl 1), (0, .inr (.inr (some 11))), (1, .inl (dp : Int)), (4, .inl 1)]) (show ([3, 2, 0, 1, 4] : List Nat).Nodup by decide) (show ([3, 2, 4, 0, 1] : List Nat).Nodup by decide) (yi_mc (List.mem_of_getElem? (i := 0) rfl) (yi_mc (List.mem_of_getElem? (i := 1) rfl) (yi_mc (List.mem_of_getElem? (i := 4) rfl) (yi_mc (List.mem_of_getElem? (i := 2) rfl) (yi_mc (List.mem_of_getElem? (i := 3) rfl) yi_mn))))) ?_
            exact yi_D_mono (ih9 (by omega) (y3 + 1) 1 1 I91 L75 a77 (cs78 ++ [(9, 0)]) ef (by omega) (by omega) (by omega) hF94 hf95 hA96 hR90) (by omega)
          · have hW97 := cs_W_t hW35 hFr76
            have hF98 := cs_F_t hF36 hFr76
            have hF99 : ∀ p k, (p ≠ 11 ∧ p ≠ 19) → I74 p k = I30 p k := fun p k h => hFr76.1 p k h.1 h.2
            have hn100 : ¬ I74 11 11 = 0 := by rw [he86]; exact hz85
            have hx101 : sp_R K P V (3, a, dp, 10 :: sk, ld, nm, cs) (.inr f83) := sp_R_t hst73 hR84
            show yi_D zi_Ms d zi_m256 j9 (95, [(2, .inl 1), (4, .inl 1), (3, .inl y3), (0, .inr (.inr (some 11))), (1, .inl (dp : Int))], [], (I74, L75, R, Y), 0, 0) _
            refine yi_D_run 1 (97, [(2, .inl 1), (4, .inl 1), (3, .inl y3), (0, .inr (.inr (some 11))), (1, .inl (dp : Int))], [.inl 1], (I74, L75, R, Y), 0, 0) (fun _ => rfl) ?_
            refine yi_D_if1 false rfl (by decide) ?_
            refine yi_D_run 2 (102, [(2, .inl 1), (4, .inl 1), (3, .inl y3), (0, .inr (.inr (some 11))), (1, .inl (dp : Int))], [.inl 2, .inr (.inr (some 11))], (I74, L75, R, Y), 0, 0) (fun _ => rfl) ?_
            refine yi_D_callv rfl (p_emit hW97) ?_
            rintro _ ⟨I102, rfl, hE103⟩
            have hW104 := cs_W_t hW97 (cs_E_F (L := L75) hE103)
            have hF105 := cs_F_t hF98 (cs_E_F hE103)
            have hf106 : ¬ I102 11 11 = 0 := by rw [hE103 11 11 (by omega) (by omega)]; exact hn100
            have he107 := (hE103 11 11 (by omega) (by omega)).trans he86
            show yi_D zi_Ms d zi_m256 j9 (105, [(2, .inl 1), (4, .inl 1), (3, .inl y3), (0, .inr (.inr (some 11))), (1, .inl (dp : Int))], [], (I102, L75, R, Y), 0, 0) _
            refine yi_D_al (al := [(4, .inl 1), (3, .inl y3), (2, .inl 1), (0, .inr (.inr (some 11))), (1, .inl (dp : Int))]) (show ([4, 3, 2, 0, 1] : List Nat).Nodup by decide) (show ([2, 4, 3, 0, 1] : List Nat).Nodup by decide) (yi_mc (List.mem_of_getElem? (i := 2) rfl) (yi_mc (List.mem_of_getElem? (i := 0) rfl) (yi_mc (List.mem_of_getElem? (i := 1) rfl) (yi_mc (List.mem_of_getElem? (i := 3) rfl) (yi_mc (List.mem_of_getElem? (i := 4) rfl) yi_mn))))) ?_
            exact yi_D_mono (jn105f 1 y3 1 _ _ _ hF105 he107 hz85 hx101 ) (by omega)
      · refine yi_D_if2 false rfl (yi_eq_f h28) ?_
        refine yi_D_run 1 (33, [(3, .inl y3), (2, .inl y2), (0, .inr (.inr (some 11))), (1, .inl (dp : Int)), (4, .inl y4)], [.inr (.inr (some 11))], (J1, G1, R, Y), 0, 0) (fun _ => rfl) ?_
        refine yi_D_gi (v := K a1) rfl rfl rfl hA9.2.2.1 (fun _ => ?_)
        refine yi_D_run 1 (38, [(3, .inl y3), (2, .inl y2), (0, .inr (.inr (some 11))), (1, .inl (dp : Int)), (4, .inl y4)], [.inl 32, .inl (K a1)], (J1, G1, R, Y), 0, 0) (fun _ => rfl) ?_
        by_cases h108 : (K a1) = 32
        · refine yi_D_if2 false rfl (yi_ne_f h108) ?_
          refine yi_D_run 1 (42, [(3, .inl y3), (2, .inl y2), (0, .inr (.inr (some 11))), (1, .inl (dp : Int)), (4, .inl y4)], [.inr (.inr (some 11))], (J1, G1, R, Y), 0, 0) (fun _ => rfl) ?_
          refine yi_D_gi (v := K a1) rfl rfl rfl hA9.2.2.1 (fun _ => ?_)
          refine yi_D_run 1 (47, [(3, .inl y3), (2, .inl y2), (0, .inr (.inr (some 11))), (1, .inl (dp : Int)), (4, .inl y4)], [.inl 31, .inl (K a1)], (J1, G1, R, Y), 0, 0) (fun _ => rfl) ?_
          have h109 : ¬ ((K a1) = 31) := by omega
          refine yi_D_if2 true rfl (yi_ne_t h109) ?_
          refine yi_D_run 3 (58, [(4, .inl 0), (3, .inl y3), (2, .inl y2), (0, .inr (.inr (some 11))), (1, .inl (dp : Int))], [.inr (.inr (some 11))], (J1, G1, R, Y), 0, 0) (fun _ => rfl) ?_
          refine yi_D_callv rfl (p_advance_z hW9 hf9 hA9) ?_
          rintro _ ⟨I110, L111, rfl, hGa112, hf113, hA114⟩
          rw [sp_nx_lt (cs_lt hW9.2.1 hA9.2.1 (by omega))] at hA114
          have hA114 : cs_A I110 L111 K te (a1 + 1) := hA114
          have hW115 := cs_W_t hW9 (cs_G_F hGa112)
          have hF116 := cs_F_t hF9 (cs_G_F hGa112)
          show yi_D zi_Ms d zi_m256 j9 (61, [(4, .inl 0), (3, .inl y3), (2, .inl y2), (0, .inr (.inr (some 11))), (1, .inl (dp : Int))], [], (I110, L111, R, Y), 0, 0) _
          refine yi_D_run 1 (63, [(4, .inl 0), (3, .inl y3), (2, .inl y2), (0, .inr (.inr (some 11))), (1, .inl (dp : Int))], [.inl 0], (I110, L111, R, Y), 0, 0) (fun _ => rfl) ?_
          refine yi_D_if1 false rfl (by decide) ?_
          refine yi_D_run 1 (67, [(4, .inl 0), (3, .inl y3), (2, .inl y2), (0, .inr (.inr (some 11))), (1, .inl (dp : Int))], [.inl y2], (I110, L111, R, Y), 0, 0) (fun _ => rfl) ?_
          by_cases h117 : y2 = 0
          · refine yi_D_if1 true rfl (yi_eq_t h117) ?_
            refine yi_D_run 1 (76, [(4, .inl 0), (3, .inl y3), (2, .inl y2), (0, .inr (.inr (some 11))), (1, .inl (dp : Int))], [.inl y2], (I110, L111, R, Y), 0, 0) (fun _ => rfl) ?_
            have h118 : y2 = 0 := by omega
            refine yi_D_if1 false rfl (yi_ne_f h118) ?_
            refine yi_D_run 1 (81, [(4, .inl 0), (3, .inl y3), (2, .inl y2), (0, .inr (.inr (some 11))), (1, .inl (dp : Int))], [.inl 0], (I110, L111, R, Y), 0, 0) (fun _ => rfl) ?_
            refine yi_D_if1 false rfl (by decide) ?_
            refine yi_D_run 5 (92, [(2, .inl 1), (4, .inl 0), (3, .inl y3), (0, .inr (.inr (some 11))), (1, .inl (dp : Int))], [.inl (dp : Int), .inr (.inr (some 11))], (I110, L111, R, Y), 0, 0) (fun _ => rfl) ?_
            have hst119 : sp_R K P V (3, a, dp, 10 :: sk, ld, nm, cs) (.inl (3, a1 + 1, dp, 11 :: sk, ld, nm, if ef = 11 then cs1 ++ [(10, 0)] else cs1)) := sp_R_s (sp_R_s hR9 (show sp_step K P V (5, a1, dp, ef :: sk, ld, nm, cs1) = .inl (6, a1, dp, sk, ld, nm, if ef = 11 then cs1 ++ [(10, 0)] else cs1) from by
              show (if K a1 = 31 then _ else _) = _
              rw [if_neg (by omega)])) (by
              show (if K a1 = 32 then _ else _) = _
              rw [if_pos (by omega)])
            refine yi_D_callv rfl (hRI dp (11 :: sk) (if ef = 11 then cs1 ++ [(10, 0)] else cs1) hW115 hf113 hA114 (by omega)) ?_
            rintro _ ⟨I120, L121, rfl, hFr122, (⟨a123, cs124, hR125, lt126, hf127, hA128⟩ | ⟨f129, hR130, hz131, he132⟩)⟩
            · have hW133 := cs_W_t hW115 hFr122
              have hF134 := cs_F_t hF116 hFr122
              have hF135 : ∀ p k, (p ≠ 11 ∧ p ≠ 19) → I120 p k = I110 p k := fun p k h => hFr122.1 p k h.1 h.2
              have hR136 : sp_R K P V (3, a, dp, 10 :: sk, ld, nm, cs) (.inl (5, a123, dp, 11 :: sk, ld, nm, cs124)) := sp_R_s (sp_R_t hst119 hR125) rfl
              show yi_D zi_Ms d zi_m256 j9 (95, [(2, .inl 1), (4, .inl 0), (3, .inl y3), (0, .inr (.inr (some 11))), (1, .inl (dp : Int))], [], (I120, L121, R, Y), 0, 0) _
              refine yi_D_run 1 (97, [(2, .inl 1), (4, .inl 0), (3, .inl y3), (0, .inr (.inr (some 11))), (1, .inl (dp : Int))], [.inl 0], (I120, L121, R, Y), 0, 0) (fun _ => rfl) ?_
              refine yi_D_if1 true rfl (by decide) ?_
              refine yi_D_iinc [(3, .inl (y3 + 1)), (2, .inl 1), (4, .inl 0), (0, .inr (.inr (some 11))), (1, .inl (dp : Int))] rfl rfl rfl (by rw [show yi_w (y3 + 1) = y3 + 1 from (yi_wn (by omega) (by omega)).trans (by omega)]; rfl) ?_
              refine yi_D_run 1 (9, [(3, .inl (y3 + 1)), (2, .inl 1), (4, .inl 0), (0, .inr (.inr (some 11))), (1, .inl (dp : Int))], [], (I120, L121, R, Y), 0, 0) (fun _ => rfl) ?_
              refine yi_D_al (al := [(3, .inl (y3 + 1)), (2, .inl 1), (0, .inr (.inr (some 11))), (1, .inl (dp : Int)), (4, .inl 0)]) (show ([3, 2, 0, 1, 4] : List Nat).Nodup by decide) (show ([3, 2, 4, 0, 1] : List Nat).Nodup by decide) (yi_mc (List.mem_of_getElem? (i := 0) rfl) (yi_mc (List.mem_of_getElem? (i := 1) rfl) (yi_mc (List.mem_of_getElem? (i := 4) rfl) (yi_mc (List.mem_of_getElem? (i := 2) rfl) (yi_mc (List.mem_of_getElem? (i := 3) rfl) yi_mn))))) ?_
              exact yi_D_mono (ih9 (by omega) (y3 + 1) 1 0 I120 L121 a123 cs124 11 (by omega) (by omega) (by omega) hF134 hf127 hA128 hR136) (by omega)
            · have hW137 := cs_W_t hW115 hFr122
              have hF138 := cs_F_t hF116 hFr122
              have hF139 : ∀ p k, (p ≠ 11 ∧ p ≠ 19) → I120 p k = I110 p k := fun p k h => hFr122.1 p k h.1 h.2
              have hn140 : ¬ I120 11 11 = 0 := by rw [he132]; exact hz131
              have hx141 : sp_R K P V (3, a, dp, 10 :: sk, ld, nm, cs) (.inr f129) := sp_R_t hst119 hR130
              show yi_D zi_Ms d zi_m256 j9 (95, [(2, .inl 1), (4, .inl 0), (3, .inl y3), (0, .inr (.inr (some 11))), (1, .inl (dp : Int))], [], (I120, L121, R, Y), 0, 0) _
              refine yi_D_run 1 (97, [(2, .inl 1), (4, .inl 0), (3, .inl y3), (0, .inr (.inr (some 11))), (1, .inl (dp : Int))], [.inl 0], (I120, L121, R, Y), 0, 0) (fun _ => rfl) ?_
              refine yi_D_if1 true rfl (by decide) ?_
              refine yi_D_al (al := [(4, .inl 0), (3, .inl y3), (2, .inl 1), (0, .inr (.inr (some 11))), (1, .inl (dp : Int))]) (show ([4, 3, 2, 0, 1] : List Nat).Nodup by decide) (show ([2, 4, 3, 0, 1] : List Nat).Nodup by decide) (yi_mc (List.mem_of_getElem? (i := 2) rfl) (yi_mc (List.mem_of_getElem? (i := 0) rfl) (yi_mc (List.mem_of_getElem? (i := 1) rfl) (yi_mc (List.mem_of_getElem? (i := 3) rfl) (yi_mc (List.mem_of_getElem? (i := 4) rfl) yi_mn))))) ?_
              exact yi_D_mono (jn105f 0 y3 1 _ _ _ hF138 he132 hz131 hx141 ) (by omega)
          · refine yi_D_if1 false rfl (yi_eq_f h117) ?_
            refine yi_D_run 2 (72, [(4, .inl 0), (3, .inl y3), (2, .inl y2), (0, .inr (.inr (some 11))), (1, .inl (dp : Int))], [.inl 3, .inr (.inr (some 11))], (I110, L111, R, Y), 0, 0) (fun _ => rfl) ?_
            refine yi_D_callv rfl (p_emit hW115) ?_
            rintro _ ⟨I142, rfl, hE143⟩
            have hW144 := cs_W_t hW115 (cs_E_F (L := L111) hE143)
            have hF145 := cs_F_t hF116 (cs_E_F hE143)
            have hf146 : I142 11 11 = 0 := (hE143 11 11 (by omega) (by omega)).trans hf113
            have hA147 := cs_A_e hA114 hE143
            show yi_D zi_Ms d zi_m256 j9 (75, [(4, .inl 0), (3, .inl y3), (2, .inl y2), (0, .inr (.inr (some 11))), (1, .inl (dp : Int))], [], (I142, L111, R, Y), 0, 0) _
            refine yi_D_run 1 (76, [(4, .inl 0), (3, .inl y3), (2, .inl y2), (0, .inr (.inr (some 11))), (1, .inl (dp : Int))], [.inl y2], (I142, L111, R, Y), 0, 0) (fun _ => rfl) ?_
            have h148 : ¬ (y2 = 0) := by omega
            refine yi_D_if1 true rfl (yi_ne_t h148) ?_
            refine yi_D_run 5 (92, [(2, .inl 1), (4, .inl 0), (3, .inl y3), (0, .inr (.inr (some 11))), (1, .inl (dp : Int))], [.inl (dp : Int), .inr (.inr (some 11))], (I142, L111, R, Y), 0, 0) (fun _ => rfl) ?_
            have hst149 : sp_R K P V (3, a, dp, 10 :: sk, ld, nm, cs) (.inl (3, a1 + 1, dp, 11 :: sk, ld, nm, if ef = 11 then cs1 ++ [(10, 0)] else cs1)) := sp_R_s (sp_R_s hR9 (show sp_step K P V (5, a1, dp, ef :: sk, ld, nm, cs1) = .inl (6, a1, dp, sk, ld, nm, if ef = 11 then cs1 ++ [(10, 0)] else cs1) from by
              show (if K a1 = 31 then _ else _) = _
              rw [if_neg (by omega)])) (by
              show (if K a1 = 32 then _ else _) = _
              rw [if_pos (by omega)])
            refine yi_D_callv rfl (hRI dp (11 :: sk) (if ef = 11 then cs1 ++ [(10, 0)] else cs1) hW144 hf146 hA147 (by omega)) ?_
            rintro _ ⟨I150, L151, rfl, hFr152, (⟨a153, cs154, hR155, lt156, hf157, hA158⟩ | ⟨f159, hR160, hz161, he162⟩)⟩
            · have hW163 := cs_W_t hW144 hFr152
              have hF164 := cs_F_t hF145 hFr152
              have hF165 : ∀ p k, (p ≠ 11 ∧ p ≠ 19) → I150 p k = I142 p k := fun p k h => hFr152.1 p k h.1 h.2
              have hR166 : sp_R K P V (3, a, dp, 10 :: sk, ld, nm, cs) (.inl (5, a153, dp, 11 :: sk, ld, nm, cs154)) := sp_R_s (sp_R_t hst149 hR155) rfl
              show yi_D zi_Ms d zi_m256 j9 (95, [(2, .inl 1), (4, .inl 0), (3, .inl y3), (0, .inr (.inr (some 11))), (1, .inl (dp : Int))], [], (I150, L151, R, Y), 0, 0) _
              refine yi_D_run 1 (97, [(2, .inl 1), (4, .inl 0), (3, .inl y3), (0, .inr (.inr (some 11))), (1, .inl (dp : Int))], [.inl 0], (I150, L151, R, Y), 0, 0) (fun _ => rfl) ?_
              refine yi_D_if1 true rfl (by decide) ?_
              refine yi_D_iinc [(3, .inl (y3 + 1)), (2, .inl 1), (4, .inl 0), (0, .inr (.inr (some 11))), (1, .inl (dp : Int))] rfl rfl rfl (by rw [show yi_w (y3 + 1) = y3 + 1 from (yi_wn (by omega) (by omega)).trans (by omega)]; rfl) ?_
              refine yi_D_run 1 (9, [(3, .inl (y3 + 1)), (2, .inl 1), (4, .inl 0), (0, .inr (.inr (some 11))), (1, .inl (dp : Int))], [], (I150, L151, R, Y), 0, 0) (fun _ => rfl) ?_
              refine yi_D_al (al := [(3, .inl (y3 + 1)), (2, .inl 1), (0, .inr (.inr (some 11))), (1, .inl (dp : Int)), (4, .inl 0)]) (show ([3, 2, 0, 1, 4] : List Nat).Nodup by decide) (show ([3, 2, 4, 0, 1] : List Nat).Nodup by decide) (yi_mc (List.mem_of_getElem? (i := 0) rfl) (yi_mc (List.mem_of_getElem? (i := 1) rfl) (yi_mc (List.mem_of_getElem? (i := 4) rfl) (yi_mc (List.mem_of_getElem? (i := 2) rfl) (yi_mc (List.mem_of_getElem? (i := 3) rfl) yi_mn))))) ?_
              exact yi_D_mono (ih9 (by omega) (y3 + 1) 1 0 I150 L151 a153 cs154 11 (by omega) (by omega) (by omega) hF164 hf157 hA158 hR166) (by omega)
            · have hW167 := cs_W_t hW144 hFr152
              have hF168 := cs_F_t hF145 hFr152
              have hF169 : ∀ p k, (p ≠ 11 ∧ p ≠ 19) → I150 p k = I142 p k := fun p k h => hFr152.1 p k h.1 h.2
              have hn170 : ¬ I150 11 11 = 0 := by rw [he162]; exact hz161
              have hx171 : sp_R K P V (3, a, dp, 10 :: sk, ld, nm, cs) (.inr f159) := sp_R_t hst149 hR160
              show yi_D zi_Ms d zi_m256 j9 (95, [(2, .inl 1), (4, .inl 0), (3, .inl y3), (0, .inr (.inr (some 11))), (1, .inl (dp : Int))], [], (I150, L151, R, Y), 0, 0) _
              refine yi_D_run 1 (97, [(2, .inl 1), (4, .inl 0), (3, .inl y3), (0, .inr (.inr (some 11))), (1, .inl (dp : Int))], [.inl 0], (I150, L151, R, Y), 0, 0) (fun _ => rfl) ?_
              refine yi_D_if1 true rfl (by decide) ?_
              refine yi_D_al (al := [(4, .inl 0), (3, .inl y3), (2, .inl 1), (0, .inr (.inr (some 11))), (1, .inl (dp : Int))]) (show ([4, 3, 2, 0, 1] : List Nat).Nodup by decide) (show ([2, 4, 3, 0, 1] : List Nat).Nodup by decide) (yi_mc (List.mem_of_getElem? (i := 2) rfl) (yi_mc (List.mem_of_getElem? (i := 0) rfl) (yi_mc (List.mem_of_getElem? (i := 1) rfl) (yi_mc (List.mem_of_getElem? (i := 3) rfl) (yi_mc (List.mem_of_getElem? (i := 4) rfl) yi_mn))))) ?_
              exact yi_D_mono (jn105f 0 y3 1 _ _ _ hF168 he162 hz161 hx171 ) (by omega)
        · refine yi_D_if2 true rfl (yi_ne_t h108) ?_
          refine yi_D_run 1 (112, [(3, .inl y3), (2, .inl y2), (0, .inr (.inr (some 11))), (1, .inl (dp : Int)), (4, .inl y4)], [.inl y2], (J1, G1, R, Y), 0, 0) (fun _ => rfl) ?_
          by_cases h172 : y2 = 0
          · refine yi_D_if1 true rfl (yi_eq_t h172) ?_
            refine yi_D_retv rfl ?_
            have hst6 : sp_R K P V (3, a, dp, 10 :: sk, ld, nm, cs) (.inl (6, a1, dp, sk, ld, nm, if ef = 11 then cs1 ++ [(10, 0)] else cs1)) := sp_R_s hR9 (by
              show (if K a1 = 31 then _ else _) = _
              rw [if_neg (by omega)])
            have hst7 : sp_R K P V (3, a, dp, 10 :: sk, ld, nm, cs) (.inl (7, a1, dp, sk, ld, nm, if ef = 11 then cs1 ++ [(10, 0)] else cs1)) := sp_R_s hst6 (by
              show (if K a1 = 32 then _ else _) = _
              rw [if_neg (by omega)])
            exact ⟨_, _, rfl, hF9, Or.inl ⟨_, _, hst7, by omega, hf9, hA9⟩⟩
          · refine yi_D_if1 false rfl (yi_eq_f h172) ?_
            refine yi_D_run 2 (117, [(3, .inl y3), (2, .inl y2), (0, .inr (.inr (some 11))), (1, .inl (dp : Int)), (4, .inl y4)], [.inl 3, .inr (.inr (some 11))], (J1, G1, R, Y), 0, 0) (fun _ => rfl) ?_
            refine yi_D_callv rfl (p_emit hW9) ?_
            rintro _ ⟨I173, rfl, hE174⟩
            have hW175 := cs_W_t hW9 (cs_E_F (L := G1) hE174)
            have hF176 := cs_F_t hF9 (cs_E_F hE174)
            have hf177 : I173 11 11 = 0 := (hE174 11 11 (by omega) (by omega)).trans hf9
            have hA178 := cs_A_e hA9 hE174
            show yi_D zi_Ms d zi_m256 j9 (120, [(3, .inl y3), (2, .inl y2), (0, .inr (.inr (some 11))), (1, .inl (dp : Int)), (4, .inl y4)], [], (I173, G1, R, Y), 0, 0) _
            refine yi_D_retv rfl ?_
            have hst6 : sp_R K P V (3, a, dp, 10 :: sk, ld, nm, cs) (.inl (6, a1, dp, sk, ld, nm, if ef = 11 then cs1 ++ [(10, 0)] else cs1)) := sp_R_s hR9 (by
              show (if K a1 = 31 then _ else _) = _
              rw [if_neg (by omega)])
            have hst7 : sp_R K P V (3, a, dp, 10 :: sk, ld, nm, cs) (.inl (7, a1, dp, sk, ld, nm, if ef = 11 then cs1 ++ [(10, 0)] else cs1)) := sp_R_s hst6 (by
              show (if K a1 = 32 then _ else _) = _
              rw [if_neg (by omega)])
            exact ⟨_, _, rfl, hF176, Or.inl ⟨_, _, hst7, by omega, hf177, hA178⟩⟩
    refine yi_D_al (al := [(3, .inl 0), (2, .inl 0), (0, .inr (.inr (some 11))), (1, .inl (dp : Int)), (4, .inl 0)]) (show ([3, 2, 0, 1, 4] : List Nat).Nodup by decide) (show ([3, 2, 0, 1] : List Nat).Nodup by decide) (yi_mc (List.mem_of_getElem? (i := 0) rfl) (yi_mc (List.mem_of_getElem? (i := 1) rfl) (yi_mc (List.mem_of_getElem? (i := 2) rfl) (yi_mc (List.mem_of_getElem? (i := 3) rfl) yi_mn)))) ?_
    exact pt9 k (Nat.le_refl _) 0 0 0 I10 L11 a13 cs14 10 (by omega) (by omega) (by omega) hF24 hf17 hA18 hR26
  · have hW179 := cs_W_t hW hFr12
    have hF180 := hFr12
    have hF181 : ∀ p k, (p ≠ 11 ∧ p ≠ 19) → I10 p k = I p k := fun p k h => hFr12.1 p k h.1 h.2
    have hn182 : ¬ I10 11 11 = 0 := by rw [he22]; exact hz21
    have hx183 : sp_R K P V (3, a, dp, 10 :: sk, ld, nm, cs) (.inr f19) := hR20
    show yi_D zi_Ms d zi_m256 k (7, [(2, .inl 0), (0, .inr (.inr (some 11))), (1, .inl (dp : Int))], [], (I10, L11, R, Y), 0, 0) _
    refine yi_D_run 2 (9, [(3, .inl 0), (2, .inl 0), (0, .inr (.inr (some 11))), (1, .inl (dp : Int))], [], (I10, L11, R, Y), 0, 0) (fun _ => rfl) ?_
    refine yi_D_al (al := [(4, .inl 0), (3, .inl 0), (2, .inl 0), (0, .inr (.inr (some 11))), (1, .inl (dp : Int))]) (show ([4, 3, 2, 0, 1] : List Nat).Nodup by decide) (show ([3, 2, 0, 1] : List Nat).Nodup by decide) (yi_mc (List.mem_of_getElem? (i := 1) rfl) (yi_mc (List.mem_of_getElem? (i := 2) rfl) (yi_mc (List.mem_of_getElem? (i := 3) rfl) (yi_mc (List.mem_of_getElem? (i := 4) rfl) yi_mn)))) ?_
    exact yi_D_mono (jn9f 0 0 0 _ _ _ hF180 he22 hz21 hx183 ) (by omega)
theorem p_readRec : ∀ d, cs_RI d ∧ cs_RF d
  | 0 => ⟨fun _ _ _ _ _ _ _ => yi_P_0, fun _ _ _ _ _ _ _ => yi_P_0⟩
  | d + 1 => by
    obtain ⟨h1, h2⟩ := p_readRec d
    exact ⟨fun dp sk cs hW hf hA hd => p_readItem_s h1 h2 hW hf hA dp sk cs hd, fun dp sk cs hW hf hA hd => p_readFormula_s h1 hW hf hA dp sk cs hd⟩
theorem p_readFormula_z {d : Nat} : cs_RF d := (p_readRec d).2
def sp_lv (k : Int) : Int := if sp_lev k = 99 then -1 else sp_lev k
theorem p_levelOf {d : Nat} {I L : Nat → Nat → Int} {R : Nat → Nat → Option Nat} {Y : (Nat → Nat) × (Nat → Nat) × Nat} {w : Int} : yi_P zi_Ms d 251 [.inl w] (I, L, R, Y) (fun r => r = (some (.inl (sp_lv w)), (I, L, R, Y), 0, 0)) := by
  refine yi_P_of (M := zi_m251) rfl (fun d k => ?_)
  show yi_D zi_Ms d zi_m251 k (0, [(0, .inl w)], [], (I, L, R, Y), 0, 0) _
  refine yi_D_run 1 (1, [(0, .inl w)], [.inl w], (I, L, R, Y), 0, 0) (fun _ => rfl) ?_
  by_cases h1 : w = 31
  · refine yi_D_lsw (off := 67) 68 rfl (by show Op.lookupswitch.offset [(31, 67), (32, 67), (42, 73), (43, 71), (45, 71), (60, 69), (61, 69)] _ _ = _; rw [Op.lookupswitch.offset_cons, if_pos (by omega)]) (by decide) ?_
    refine yi_D_run 1 (69, [(0, .inl w)], [.inl 0], (I, L, R, Y), 0, 0) (fun _ => rfl) ?_
    refine yi_D_reti rfl ?_
    have e : sp_lev w = 0 := by
      unfold sp_lev
      repeat (first | rw [if_pos (by omega)] | rw [if_neg (by omega)])
    have e2 : sp_lv w = 0 := by
      unfold sp_lv
      rw [e]
      rfl
    show _ = _
    rw [e2]
  by_cases h2 : w = 32
  · refine yi_D_lsw (off := 67) 68 rfl (by show Op.lookupswitch.offset [(31, 67), (32, 67), (42, 73), (43, 71), (45, 71), (60, 69), (61, 69)] _ _ = _; rw [Op.lookupswitch.offset_cons, if_neg (by omega), Op.lookupswitch.offset_cons, if_pos (by omega)]) (by decide) ?_
    refine yi_D_run 1 (69, [(0, .inl w)], [.inl 0], (I, L, R, Y), 0, 0) (fun _ => rfl) ?_
    refine yi_D_reti rfl ?_
    have e : sp_lev w = 0 := by
      unfold sp_lev
      repeat (first | rw [if_pos (by omega)] | rw [if_neg (by omega)])
    have e2 : sp_lv w = 0 := by
      unfold sp_lv
      rw [e]
      rfl
    show _ = _
    rw [e2]
  by_cases h3 : w = 42
  · refine yi_D_lsw (off := 73) 74 rfl (by show Op.lookupswitch.offset [(31, 67), (32, 67), (42, 73), (43, 71), (45, 71), (60, 69), (61, 69)] _ _ = _; rw [Op.lookupswitch.offset_cons, if_neg (by omega), Op.lookupswitch.offset_cons, if_neg (by omega), Op.lookupswitch.offset_cons, if_pos (by omega)]) (by decide) ?_
    refine yi_D_run 1 (75, [(0, .inl w)], [.inl 3], (I, L, R, Y), 0, 0) (fun _ => rfl) ?_
    refine yi_D_reti rfl ?_
    have e : sp_lev w = 3 := by
      unfold sp_lev
      repeat (first | rw [if_pos (by omega)] | rw [if_neg (by omega)])
    have e2 : sp_lv w = 3 := by
      unfold sp_lv
      rw [e]
      rfl
    show _ = _
    rw [e2]
  by_cases h4 : w = 43
  · refine yi_D_lsw (off := 71) 72 rfl (by show Op.lookupswitch.offset [(31, 67), (32, 67), (42, 73), (43, 71), (45, 71), (60, 69), (61, 69)] _ _ = _; rw [Op.lookupswitch.offset_cons, if_neg (by omega), Op.lookupswitch.offset_cons, if_neg (by omega), Op.lookupswitch.offset_cons, if_neg (by omega), Op.lookupswitch.offset_cons, if_pos (by omega)]) (by decide) ?_
    refine yi_D_run 1 (73, [(0, .inl w)], [.inl 2], (I, L, R, Y), 0, 0) (fun _ => rfl) ?_
    refine yi_D_reti rfl ?_
    have e : sp_lev w = 2 := by
      unfold sp_lev
      repeat (first | rw [if_pos (by omega)] | rw [if_neg (by omega)])
    have e2 : sp_lv w = 2 := by
      unfold sp_lv
      rw [e]
      rfl
    show _ = _
    rw [e2]
  by_cases h5 : w = 45
  · refine yi_D_lsw (off := 71) 72 rfl (by show Op.lookupswitch.offset [(31, 67), (32, 67), (42, 73), (43, 71), (45, 71), (60, 69), (61, 69)] _ _ = _; rw [Op.lookupswitch.offset_cons, if_neg (by omega), Op.lookupswitch.offset_cons, if_neg (by omega), Op.lookupswitch.offset_cons, if_neg (by omega), Op.lookupswitch.offset_cons, if_neg (by omega), Op.lookupswitch.offset_cons, if_pos (by omega)]) (by decide) ?_
    refine yi_D_run 1 (73, [(0, .inl w)], [.inl 2], (I, L, R, Y), 0, 0) (fun _ => rfl) ?_
    refine yi_D_reti rfl ?_
    have e : sp_lev w = 2 := by
      unfold sp_lev
      repeat (first | rw [if_pos (by omega)] | rw [if_neg (by omega)])
    have e2 : sp_lv w = 2 := by
      unfold sp_lv
      rw [e]
      rfl
    show _ = _
    rw [e2]
  by_cases h6 : w = 60
  · refine yi_D_lsw (off := 69) 70 rfl (by show Op.lookupswitch.offset [(31, 67), (32, 67), (42, 73), (43, 71), (45, 71), (60, 69), (61, 69)] _ _ = _; rw [Op.lookupswitch.offset_cons, if_neg (by omega), Op.lookupswitch.offset_cons, if_neg (by omega), Op.lookupswitch.offset_cons, if_neg (by omega), Op.lookupswitch.offset_cons, if_neg (by omega), Op.lookupswitch.offset_cons, if_neg (by omega), Op.lookupswitch.offset_cons, if_pos (by omega)]) (by decide) ?_
    refine yi_D_run 1 (71, [(0, .inl w)], [.inl 1], (I, L, R, Y), 0, 0) (fun _ => rfl) ?_
    refine yi_D_reti rfl ?_
    have e : sp_lev w = 1 := by
      unfold sp_lev
      repeat (first | rw [if_pos (by omega)] | rw [if_neg (by omega)])
    have e2 : sp_lv w = 1 := by
      unfold sp_lv
      rw [e]
      rfl
    show _ = _
    rw [e2]
  by_cases h7 : w = 61
  · refine yi_D_lsw (off := 69) 70 rfl (by show Op.lookupswitch.offset [(31, 67), (32, 67), (42, 73), (43, 71), (45, 71), (60, 69), (61, 69)] _ _ = _; rw [Op.lookupswitch.offset_cons, if_neg (by omega), Op.lookupswitch.offset_cons, if_neg (by omega), Op.lookupswitch.offset_cons, if_neg (by omega), Op.lookupswitch.offset_cons, if_neg (by omega), Op.lookupswitch.offset_cons, if_neg (by omega), Op.lookupswitch.offset_cons, if_neg (by omega), Op.lookupswitch.offset_cons, if_pos (by omega)]) (by decide) ?_
    refine yi_D_run 1 (71, [(0, .inl w)], [.inl 1], (I, L, R, Y), 0, 0) (fun _ => rfl) ?_
    refine yi_D_reti rfl ?_
    have e : sp_lev w = 1 := by
      unfold sp_lev
      repeat (first | rw [if_pos (by omega)] | rw [if_neg (by omega)])
    have e2 : sp_lv w = 1 := by
      unfold sp_lv
      rw [e]
      rfl
    show _ = _
    rw [e2]
  refine yi_D_lsw (off := 75) 76 rfl (by show Op.lookupswitch.offset [(31, 67), (32, 67), (42, 73), (43, 71), (45, 71), (60, 69), (61, 69)] _ _ = _; rw [Op.lookupswitch.offset_cons, if_neg (by omega), Op.lookupswitch.offset_cons, if_neg (by omega), Op.lookupswitch.offset_cons, if_neg (by omega), Op.lookupswitch.offset_cons, if_neg (by omega), Op.lookupswitch.offset_cons, if_neg (by omega), Op.lookupswitch.offset_cons, if_neg (by omega), Op.lookupswitch.offset_cons, if_neg (by omega), Op.lookupswitch.offset_nil]) (by decide) ?_
  refine yi_D_run 1 (77, [(0, .inl w)], [.inl (-1)], (I, L, R, Y), 0, 0) (fun _ => rfl) ?_
  refine yi_D_reti rfl ?_
  have e : sp_lev w = 99 := by
    unfold sp_lev
    repeat (first | rw [if_pos (by omega)] | rw [if_neg (by omega)])
  have e2 : sp_lv w = (-1) := by
    unfold sp_lv
    rw [e]
    rfl
  show _ = _
  rw [e2]
