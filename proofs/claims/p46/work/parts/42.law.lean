/-! the law: its loop, its beginning -/
section GLAW
variable {Z : gEnv} {Γ : gCtx} {h : gH} {a t0 N : Nat} {f : Nat → Int32} {B : Int64}
/-- a park that was just made -/
def P00 : gP := (fun _ _ _ _ => 0, fun _ => 0, fun _ _ _ => none, fun _ _ _ => none, fun _ => none, 0, 0, fun _ => 0, fun _ => 0, 0)
theorem P00_inv : Inv P00 := by
  refine ⟨⟨Nat.zero_le _, fun r hr => absurd hr (Nat.not_lt_zero _)⟩, ⟨Nat.zero_le _, fun r hr => absurd hr (Nat.not_lt_zero _), Nat.zero_le _⟩, fun _ _ => [], fun _ _ => [], fun _ => 0, fun _ => 0, ⟨fun r q hr => absurd hr (Nat.not_lt_zero _), fun _ _ _ => rfl, fun r q hr => absurd hr (Nat.not_lt_zero _), fun _ _ _ => rfl⟩, fun g hg => absurd hg (Nat.not_lt_zero _), 0, 0, 0, rfl, rfl, rfl, Nat.le_refl _, rfl, Nat.le_refl _⟩
theorem P00_BI : BI 0 0 0 P00 := ⟨P00_inv, ⟨rfl, rfl⟩, rfl, rfl, rfl⟩
theorem P00_LR {q6 q15 q23 : Nat} (hlt : a < q6 ∧ q6 < q15 ∧ q15 < q23) (ha : h a = some (.inr (8, [.ref q6, .int 0, .ref q15, .int 0, .ref q23, .int 0, .int 0, .int 0, .int 0, .int 0, .long 0, .long 0, .long 0]))) (h6 : h q6 = some (.inl (Z.2.2.2.1 0, 4, gRow (fun _ => none)))) (h15 : h q15 = some (.inl (Z.2.2.2.1 1, 8, .inl (fun _ => 0)))) (h23 : h q23 = some (.inl (Z.2.2.2.1 2, 60, gRow (fun _ => none)))) : LR Z a P00 h := by
  have hlv : ∀ k r i, gLive P00 k r i → (k = 6 ∨ k = 7 ∨ k = 8 ∨ k = 9) ∧ r = 0 ∧ i = 0 := by
    intro k r i hl
    rcases k with _ | _ | _ | _ | _ | _ | _ | _ | _ | _ | _ | _ | _ | _ | _ | k
    all_goals first
      | (exact absurd hl.1 (Nat.not_lt_zero _))
      | (exact ⟨by omega, hl⟩)
      | (exact absurd hl.2.2 (by decide))
      | exact hl.elim
  refine ⟨fun k _ _ => if k = 6 then a else if k = 7 then q6 else if k = 8 then q15 else q23, rfl, fun k r i hl => ?_, fun k r i k' r' i' hl hl' e => ?_⟩
  · obtain ⟨hk, rfl, rfl⟩ := hlv k r i hl
    rcases hk with rfl | rfl | rfl | rfl
    · exact ha
    · refine h6.trans ?_
      simp only [gCell]
      congr 5 <;> (funext j; exact (if_neg (Nat.not_lt_zero j)).symm)
    · exact h15
    · refine h23.trans ?_
      simp only [gCell]
      congr 5 <;> (funext j; exact (if_neg (Nat.not_lt_zero j)).symm)
  · obtain ⟨hk, rfl, rfl⟩ := hlv k r i hl
    obtain ⟨hk', rfl, rfl⟩ := hlv k' r' i' hl'
    refine ⟨?_, rfl, rfl⟩
    rcases hk with rfl | rfl | rfl | rfl <;> rcases hk' with rfl | rfl | rfl | rfl <;> simp at e <;> omega
set_option maxHeartbeats 8000000 in
set_option maxRecDepth 100000 in
theorem law_loop (G : gG Z) (X : gOK Z Γ cL_law RL 23 (some .boolean)) (RM : Γ.2.2.1 = room_1) (hA : gArg Z t0 N f Γ.2.2.2.1 Γ.2.2.2.1.heap) (hN : N ≤ 2000) {a1 v1 a2 v2 : Nat} (hV1 : vk_R RL 216 "lsr" a1 Γ.2.2.2.1) (hF1 : LitF Z a1 v1 [108, 115, 114] Γ.2.2.2.1 Γ.2.2.2.1.heap) (hV2 : vk_R RL 223 "tttan" a2 Γ.2.2.2.1) (hF2 : LitF Z a2 v2 [116, 116, 116, 97, 110] Γ.2.2.2.1 Γ.2.2.2.1.heap) (END : ∀ (kk nn : Nat) (h : gH) (lv : List (Nat × Value)), kk ≤ room_1.cells → nn ≤ room_1.slots → GJ Z Γ h kk nn 950 lv [.int 1]) : ∀ (m k kk nn T : Nat) (x7 : Int32) (O : Int64) (P1 : gP) (h1 : gH) (hL : LR Z a P1 h1) (hJ : LJ B O (nI T) P1) (hm : m + k = 36) (hT : T ≤ 20 * k) (hkn : kk + m * 1000 ≤ 50000 ∧ nn + m * 6000 ≤ 250000) (h7 : x7 = nI k), GJ Z Γ h1 kk nn 57 [(7, .int x7), (6, .int 1), (4, .long O), (2, .long B), (1, .ref a), (0, .ref t0)] [] := by
  intro m
  induction m with
  | zero =>
    intro k kk nn T x7 O P1 h1 hL hJ hm hT hkn h7
    refine g_iload X dL_law_57 rfl ?_
    refine g_bipush (v := 36) X dL_law_59 (by decide) ?_
    refine g_icmp_ge 948 X dL_law_61 (by decide) (fun c61 => ?_) (fun c61 => ?_)
    · skip
      refine g_iload X dL_law_948 rfl ?_
      exact END _ _ _ _ (by have rC := rm_C; omega) (by have rS := rm_S; omega)
    · skip
      exact absurd c61 (by rw [h7]; exact nI_nlt (b := 36) (by omega) (by omega))
  | succ m ih =>
    intro k kk nn T x7 O P1 h1 hL hJ hm hT hkn h7
    have hk : k < 36 := by omega
    have K : lK Z Γ a t0 B x7 (kk + 200) (nn + 2000) T := by
      intro kk2 nn2 P2 h2 O T2 g1 g2 g3 hL hJ
      refine g_iload X dL_law_904 rfl ?_
      refine g_if_eq 939 X dL_law_906 (by decide) (fun c906 => ?_) (fun c906 => ?_)
      · skip
        exact absurd c906 (by decide)
      · skip
        refine g_aload_n X dL_law_909 rfl ?_
        refine g_iconst (v := 0) X dL_law_910 (by decide) ?_
        refine g_callS X lm_L_202 (c_L_areTrainsApart G hL hJ (r := 0) rfl (by decide)) rfl rfl (Nat.le_of_ble_eq_true rfl) (by rw [RM]; exact ⟨Nat.le_of_ble_eq_true rfl, Nat.le_of_ble_eq_true rfl⟩) (by rw [RM]; have rC := rm_C; have rS := rm_S; show _ + _ ≤ room_1.cells ∧ _ + _ ≤ room_1.slots; omega) dL_law_911 (fun v hz q => ?_) (fun _ _ q => q.elim)
        obtain ⟨_, rfl, P911, hL, hJ, rfl⟩ := q
        refine GJ.seq (st' := [.int 1]) rfl ?_
        refine g_if_eq 939 X dL_law_914 (by decide) (fun c914 => ?_) (fun c914 => ?_)
        · skip
          exact absurd c914 (by decide)
        · skip
          refine g_aload_n X dL_law_917 rfl ?_
          refine g_iconst (v := 1) X dL_law_918 (by decide) ?_
          refine g_callS X lm_L_202 (c_L_areTrainsApart G hL hJ (r := 1) rfl (by decide)) rfl rfl (Nat.le_of_ble_eq_true rfl) (by rw [RM]; exact ⟨Nat.le_of_ble_eq_true rfl, Nat.le_of_ble_eq_true rfl⟩) (by rw [RM]; have rC := rm_C; have rS := rm_S; show _ + _ ≤ room_1.cells ∧ _ + _ ≤ room_1.slots; omega) dL_law_919 (fun v hz q => ?_) (fun _ _ q => q.elim)
          obtain ⟨_, rfl, P919, hL, hJ, rfl⟩ := q
          refine GJ.seq (st' := [.int 1]) rfl ?_
          refine g_if_eq 939 X dL_law_922 (by decide) (fun c922 => ?_) (fun c922 => ?_)
          · skip
            exact absurd c922 (by decide)
          · skip
            refine g_aload_n X dL_law_925 rfl ?_
            refine g_lload_n X dL_law_926 rfl ?_
            refine g_lload X dL_law_927 rfl ?_
            refine g_callS X lm_L_206 (c_L_areGuestsRight G hL hJ) rfl rfl (Nat.le_of_ble_eq_true rfl) (by rw [RM]; exact ⟨Nat.le_of_ble_eq_true rfl, Nat.le_of_ble_eq_true rfl⟩) (by rw [RM]; have rC := rm_C; have rS := rm_S; show _ + _ ≤ room_1.cells ∧ _ + _ ≤ room_1.slots; omega) dL_law_929 (fun v hz q => ?_) (fun _ _ q => q.elim)
            obtain ⟨_, rfl, P929, hL, hJ, rfl⟩ := q
            refine GJ.seq (st' := [.int 1]) rfl ?_
            refine g_if_eq 939 X dL_law_932 (by decide) (fun c932 => ?_) (fun c932 => ?_)
            · skip
              exact absurd c932 (by decide)
            · skip
              refine g_iconst (v := 1) X dL_law_935 (by decide) ?_
              refine g_goto 940 X dL_law_936 (by decide) ?_
              refine g_istore (lv' := [(6, .int 1), (7, .int x7), (4, .long O), (2, .long B), (1, .ref a), (0, .ref t0)]) X dL_law_940 (by decide) rfl ?_
              refine gp_iinc 1 X dL_law_942 rfl (by decide) (fun x942 e942 => ?_)
              refine GJ.leq (lv' := [(7, .int x942), (6, .int 1), (4, .long O), (2, .long B), (1, .ref a), (0, .ref t0)]) rfl ?_
              refine g_goto 57 X dL_law_945 (by decide) ?_
              exact ih (k + 1) _ _ T2 x942 O P929 _ hL hJ (by omega) (by omega) (by omega) (by rw [e942, h7]; exact nI_1 k)
    refine g_iload X dL_law_57 rfl ?_
    refine g_bipush (v := 36) X dL_law_59 (by decide) ?_
    refine g_icmp_ge 948 X dL_law_61 (by decide) (fun c61 => ?_) (fun c61 => ?_)
    · skip
      exact absurd (by rw [h7]; exact nI_lt (b := 36) hk (by omega)) c61
    · skip
      refine g_iload X dL_law_64 rfl ?_
      refine g_if_eq 948 X dL_law_66 (by decide) (fun c66 => ?_) (fun c66 => ?_)
      · skip
        exact absurd c66 (by decide)
      · skip
        refine g_sipush (v := 190) X dL_law_69 (by decide) ?_
        refine g_bipush (v := 6) X dL_law_72 (by decide) ?_
        refine g_iload X dL_law_74 rfl ?_
        refine g_imul X dL_law_76 (fun x76 e76 => ?_)
        refine g_iadd X dL_law_77 (fun x77 e77 => ?_)
        have h8 : x77 = nI (190 + 6 * k) := by rw [e77, e76, h7, show (6 : Int32) = nI 6 from rfl, show (190 : Int32) = nI 190 from rfl, pk_mul, nI_add]
        refine g_istore (lv' := [(8, .int x77), (7, .int x7), (6, .int 1), (4, .long O), (2, .long B), (1, .ref a), (0, .ref t0)]) X dL_law_78 (by decide) rfl ?_
        refine g_aload_n X dL_law_80 rfl ?_
        refine g_iload X dL_law_81 rfl ?_
        refine g_iconst (v := 1) X dL_law_83 (by decide) ?_
        refine g_iadd X dL_law_84 (fun x84 e84 => ?_)
        refine g_iconst (v := 2) X dL_law_85 (by decide) ?_
        have i86 : x84 = nI (190 + 6 * k + 1) := by rw [e84, h8, show (1 : Int32) = nI 1 from rfl, nI_add]
        refine GJ.seq (st' := [.int (nI 2), .int (nI (190 + 6 * k + 1)), .ref t0]) (by rw [i86]; first | done | rfl) ?_
        refine g_callSA X hA lm_L_163 (c_L_pick G (i := (190 + 6 * k + 1)) (m := 2) (by omega) hN (by decide) (by decide)) rfl rfl (Nat.le_of_ble_eq_true rfl) (by rw [RM]; exact ⟨Nat.le_of_ble_eq_true rfl, Nat.le_of_ble_eq_true rfl⟩) (by rw [RM]; have rC := rm_C; have rS := rm_S; show _ + _ ≤ room_1.cells ∧ _ + _ ≤ room_1.slots; omega) dL_law_86 (fun v hz q => ?_) (fun _ _ q => q.elim)
        obtain ⟨x86, rfl, ⟨j86, hj86, e86⟩, rfl⟩ := q
        refine GJ.seq (st' := [.int x86]) rfl ?_
        refine g_istore (lv' := [(9, .int x86), (8, .int x77), (7, .int x7), (6, .int 1), (4, .long O), (2, .long B), (1, .ref a), (0, .ref t0)]) X dL_law_89 (by decide) rfl ?_
        refine g_aload_n X dL_law_91 rfl ?_
        refine g_iload X dL_law_92 rfl ?_
        refine g_iconst (v := 2) X dL_law_94 (by decide) ?_
        refine g_iadd X dL_law_95 (fun x95 e95 => ?_)
        refine g_bipush (v := 14) X dL_law_96 (by decide) ?_
        have i98 : x95 = nI (190 + 6 * k + 2) := by rw [e95, h8, show (2 : Int32) = nI 2 from rfl, nI_add]
        refine GJ.seq (st' := [.int (nI 14), .int (nI (190 + 6 * k + 2)), .ref t0]) (by rw [i98]; first | done | rfl) ?_
        refine g_callSA X hA lm_L_163 (c_L_pick G (i := (190 + 6 * k + 2)) (m := 14) (by omega) hN (by decide) (by decide)) rfl rfl (Nat.le_of_ble_eq_true rfl) (by rw [RM]; exact ⟨Nat.le_of_ble_eq_true rfl, Nat.le_of_ble_eq_true rfl⟩) (by rw [RM]; have rC := rm_C; have rS := rm_S; show _ + _ ≤ room_1.cells ∧ _ + _ ≤ room_1.slots; omega) dL_law_98 (fun v hz q => ?_) (fun _ _ q => q.elim)
        obtain ⟨x98, rfl, ⟨j98, hj98, e98⟩, rfl⟩ := q
        refine GJ.seq (st' := [.int x98]) rfl ?_
        refine g_istore (lv' := [(10, .int x98), (9, .int x86), (8, .int x77), (7, .int x7), (6, .int 1), (4, .long O), (2, .long B), (1, .ref a), (0, .ref t0)]) X dL_law_101 (by decide) rfl ?_
        refine g_aload_n X dL_law_103 rfl ?_
        refine g_iload X dL_law_104 rfl ?_
        refine g_bipush (v := 12) X dL_law_106 (by decide) ?_
        have i108 : x77 = nI (190 + 6 * k) := by exact h8
        refine GJ.seq (st' := [.int (nI 12), .int (nI (190 + 6 * k)), .ref t0]) (by rw [i108]; first | done | rfl) ?_
        refine g_callSA X hA lm_L_163 (c_L_pick G (i := (190 + 6 * k)) (m := 12) (by omega) hN (by decide) (by decide)) rfl rfl (Nat.le_of_ble_eq_true rfl) (by rw [RM]; exact ⟨Nat.le_of_ble_eq_true rfl, Nat.le_of_ble_eq_true rfl⟩) (by rw [RM]; have rC := rm_C; have rS := rm_S; show _ + _ ≤ room_1.cells ∧ _ + _ ≤ room_1.slots; omega) dL_law_108 (fun v hz q => ?_) (fun _ _ q => q.elim)
        obtain ⟨x108, rfl, ⟨j108, hj108, e108⟩, rfl⟩ := q
        refine GJ.seq (st' := [.int x108]) rfl ?_
        rcases (show j108 = 0 ∨ j108 = 1 ∨ j108 = 2 ∨ j108 = 3 ∨ j108 = 4 ∨ j108 = 5 ∨ j108 = 6 ∨ j108 = 7 ∨ j108 = 8 ∨ j108 = 9 ∨ j108 = 10 ∨ j108 = 11 by omega) with e | e | e | e | e | e | e | e | e | e | e | e
        · skip
          refine GJ.seq (st' := [.int 0]) (by rw [e108, e]; rfl) ?_
          refine g_tableIn 168 X dL_law_111 (by decide) (by decide) rfl (by decide) ?_
          exact law_168 G X RM hA hN hL hJ (by omega) e86 hj86 e98 hj98 h8 (by omega) (by omega) (by omega) K
        · skip
          refine GJ.seq (st' := [.int 1]) (by rw [e108, e]; rfl) ?_
          refine g_tableIn 168 X dL_law_111 (by decide) (by decide) rfl (by decide) ?_
          exact law_168 G X RM hA hN hL hJ (by omega) e86 hj86 e98 hj98 h8 (by omega) (by omega) (by omega) K
        · skip
          refine GJ.seq (st' := [.int 2]) (by rw [e108, e]; rfl) ?_
          refine g_tableIn 179 X dL_law_111 (by decide) (by decide) rfl (by decide) ?_
          exact law_179 G X RM hA hN hL hJ (by omega) e86 hj86 e98 hj98 h8 (by omega) (by omega) (by omega) K
        · skip
          refine GJ.seq (st' := [.int 3]) (by rw [e108, e]; rfl) ?_
          refine g_tableIn 179 X dL_law_111 (by decide) (by decide) rfl (by decide) ?_
          exact law_179 G X RM hA hN hL hJ (by omega) e86 hj86 e98 hj98 h8 (by omega) (by omega) (by omega) K
        · skip
          refine GJ.seq (st' := [.int 4]) (by rw [e108, e]; rfl) ?_
          refine g_tableIn 226 X dL_law_111 (by decide) (by decide) rfl (by decide) ?_
          exact law_226 G X RM hA hN hV1 hF1 hL hJ (by omega) e86 hj86 e98 hj98 h8 (by omega) (by omega) (by omega) K
        · skip
          refine GJ.seq (st' := [.int 5]) (by rw [e108, e]; rfl) ?_
          refine g_tableIn 226 X dL_law_111 (by decide) (by decide) rfl (by decide) ?_
          exact law_226 G X RM hA hN hV1 hF1 hL hJ (by omega) e86 hj86 e98 hj98 h8 (by omega) (by omega) (by omega) K
        · skip
          refine GJ.seq (st' := [.int 6]) (by rw [e108, e]; rfl) ?_
          refine g_tableIn 341 X dL_law_111 (by decide) (by decide) rfl (by decide) ?_
          exact law_341 G X RM hA hN hL hJ (by omega) e86 hj86 e98 hj98 h8 (by omega) (by omega) (by omega) K
        · skip
          refine GJ.seq (st' := [.int 7]) (by rw [e108, e]; rfl) ?_
          refine g_tableIn 437 X dL_law_111 (by decide) (by decide) rfl (by decide) ?_
          exact law_437 G X RM hA hN hL hJ (by omega) e86 hj86 e98 hj98 h8 (by omega) (by omega) (by omega) K
        · skip
          refine GJ.seq (st' := [.int 8]) (by rw [e108, e]; rfl) ?_
          refine g_tableIn 511 X dL_law_111 (by decide) (by decide) rfl (by decide) ?_
          exact law_511 G X RM hA hN hL hJ (by omega) e86 hj86 e98 hj98 h8 (by omega) (by omega) (by omega) K
        · skip
          refine GJ.seq (st' := [.int 9]) (by rw [e108, e]; rfl) ?_
          refine g_tableIn 606 X dL_law_111 (by decide) (by decide) rfl (by decide) ?_
          exact law_606 G X RM hA hN hL hJ (by omega) e86 hj86 e98 hj98 h8 (by omega) (by omega) (by omega) K
        · skip
          refine GJ.seq (st' := [.int 10]) (by rw [e108, e]; rfl) ?_
          refine g_tableIn 645 X dL_law_111 (by decide) (by decide) rfl (by decide) ?_
          exact law_645 G X RM hA hN hV2 hF2 hL hJ (by omega) e86 hj86 e98 hj98 h8 (by omega) (by omega) (by omega) K
        · skip
          refine GJ.seq (st' := [.int 11]) (by rw [e108, e]; rfl) ?_
          refine g_tableOut 723 X dL_law_111 (by decide) (by decide) ?_
          exact law_723 G X RM hA hN hL hJ (by omega) e86 hj86 e98 hj98 h8 (by omega) (by omega) (by omega) K
set_option maxHeartbeats 8000000 in
set_option maxRecDepth 100000 in
theorem law_start (G : gG Z) (X : gOK Z Γ cL_law RL 23 (some .boolean)) (RM : Γ.2.2.1 = room_1) (hA : gArg Z t0 N f Γ.2.2.2.1 Γ.2.2.2.1.heap) (hN : N ≤ 2000) {a1 v1 a2 v2 : Nat} (hV1 : vk_R RL 216 "lsr" a1 Γ.2.2.2.1) (hF1 : LitF Z a1 v1 [108, 115, 114] Γ.2.2.2.1 Γ.2.2.2.1.heap) (hV2 : vk_R RL 223 "tttan" a2 Γ.2.2.2.1) (hF2 : LitF Z a2 v2 [116, 116, 116, 97, 110] Γ.2.2.2.1 Γ.2.2.2.1.heap) (END : ∀ (kk nn : Nat) (h : gH) (lv : List (Nat × Value)), kk ≤ room_1.cells → nn ≤ room_1.slots → GJ Z Γ h kk nn 950 lv [.int 1]) : GJ Z Γ (fun _ => none) 0 0 0 [(0, .ref t0)] [] := by
  refine gw_new [.null, .int 0, .null, .int 0, .null, .int 0, .int 0, .int 0, .int 0, .int 0, .long 0, .long 0, .long 0] X cl_X6 lc_L_16 (fun j hj => by rcases j with _ | _ | _ | _ | _ | _ | _ | _ | _ | _ | _ | _ | _ | j <;> first | rfl | omega) (by rw [RM]; exact Nat.le_of_ble_eq_true rfl) (by rw [RM]; exact Nat.le_of_ble_eq_true rfl) dL_law_0 (fun q h1 gq fq fx => ?_)
  refine g_dup X dL_law_3 rfl ?_
  refine g_callI X lm_L_197 (k_X6 G fq) rfl rfl (Nat.le_of_ble_eq_true rfl) (by rw [RM]; exact ⟨Nat.le_of_ble_eq_true rfl, Nat.le_of_ble_eq_true rfl⟩) (by rw [RM]; exact ⟨Nat.le_of_ble_eq_true rfl, Nat.le_of_ble_eq_true rfl⟩) dL_law_4 (fun h2 hq => ?_)
  obtain ⟨q6, q15, q23, hlt, f1, f6, f15, f23, -⟩ := hq
  have hL := P00_LR hlt f1 f6 f15 f23
  refine g_astore_n (lv' := [(1, .ref q), (0, .ref t0)]) X dL_law_7 (by decide) rfl ?_
  refine g_aload_n X dL_law_8 rfl ?_
  refine g_aload_n X dL_law_9 rfl ?_
  refine g_callSA X hA lm_L_198 (c_L_build G hL P00_BI hN) rfl rfl (Nat.le_of_ble_eq_true rfl) (by rw [RM]; exact ⟨Nat.le_of_ble_eq_true rfl, Nat.le_of_ble_eq_true rfl⟩) (by rw [RM]; exact ⟨Nat.le_of_ble_eq_true rfl, Nat.le_of_ble_eq_true rfl⟩) dL_law_10 (fun v h3 hq => ?_) (fun _ _ q => q.elim)
  obtain ⟨rfl, P2, B, hL, hJ⟩ := hq
  refine GJ.seq (st' := []) rfl ?_
  refine g_aload_n X dL_law_13 rfl ?_
  obtain ⟨fs14, hb14⟩ := hL.box
  refine g_callV X lm_L_186 (l_allMoney G hL) cl_X6 hb14 rfl rfl (Nat.le_of_ble_eq_true rfl) (by rw [RM]; exact ⟨Nat.le_of_ble_eq_true rfl, Nat.le_of_ble_eq_true rfl⟩) (by rw [RM]; have rC := rm_C; have rS := rm_S; show _ + _ ≤ room_1.cells ∧ _ + _ ≤ room_1.slots; omega) dL_law_14 (fun v hz q => ?_) (fun _ _ q => q.elim)
  obtain ⟨x14, rfl, e14, rfl⟩ := q
  refine GJ.seq (st' := [.long x14]) rfl ?_
  have eB : x14 = B := by
    symm
    obtain ⟨hnn, LL, RR, m, p, hw⟩ := hJ.inv.2
    obtain ⟨b, ti, to, hj10, hj11, hj12, hb14, hbs, hps⟩ := hw.2.2
    have hz : lN to = 0 := hj12.symm.trans hJ.2.2.2.1
    rw [← hJ.2.2.1, e14, fMI_is hnn.2.2 hw, hj10, hj11, hbs, ← lN_add, ← lN_add, hz, Int64.add_zero]
  subst eB
  refine g_lstore_n (lv' := [(2, .long x14), (1, .ref q), (0, .ref t0)]) X dL_law_17 (by decide) rfl ?_
  refine g_lconst (v := 0) X dL_law_18 (by decide) ?_
  refine g_lstore (lv' := [(4, .long 0), (2, .long x14), (1, .ref q), (0, .ref t0)]) X dL_law_19 (by decide) rfl ?_
  refine g_aload_n X dL_law_21 rfl ?_
  refine g_iconst (v := 0) X dL_law_22 (by decide) ?_
  refine g_callS X lm_L_202 (c_L_areTrainsApart G hL hJ (r := 0) rfl (by decide)) rfl rfl (Nat.le_of_ble_eq_true rfl) (by rw [RM]; exact ⟨Nat.le_of_ble_eq_true rfl, Nat.le_of_ble_eq_true rfl⟩) (by rw [RM]; have rC := rm_C; have rS := rm_S; show _ + _ ≤ room_1.cells ∧ _ + _ ≤ room_1.slots; omega) dL_law_23 (fun v hz q => ?_) (fun _ _ q => q.elim)
  obtain ⟨_, rfl, P23, hL, hJ, rfl⟩ := q
  refine GJ.seq (st' := [.int 1]) rfl ?_
  refine g_if_eq 51 X dL_law_26 (by decide) (fun c26 => ?_) (fun c26 => ?_)
  · skip
    exact absurd c26 (by decide)
  · skip
    refine g_aload_n X dL_law_29 rfl ?_
    refine g_iconst (v := 1) X dL_law_30 (by decide) ?_
    refine g_callS X lm_L_202 (c_L_areTrainsApart G hL hJ (r := 1) rfl (by decide)) rfl rfl (Nat.le_of_ble_eq_true rfl) (by rw [RM]; exact ⟨Nat.le_of_ble_eq_true rfl, Nat.le_of_ble_eq_true rfl⟩) (by rw [RM]; have rC := rm_C; have rS := rm_S; show _ + _ ≤ room_1.cells ∧ _ + _ ≤ room_1.slots; omega) dL_law_31 (fun v hz q => ?_) (fun _ _ q => q.elim)
    obtain ⟨_, rfl, P31, hL, hJ, rfl⟩ := q
    refine GJ.seq (st' := [.int 1]) rfl ?_
    refine g_if_eq 51 X dL_law_34 (by decide) (fun c34 => ?_) (fun c34 => ?_)
    · skip
      exact absurd c34 (by decide)
    · skip
      refine g_aload_n X dL_law_37 rfl ?_
      refine g_lload_n X dL_law_38 rfl ?_
      refine g_lload X dL_law_39 rfl ?_
      refine g_callS X lm_L_206 (c_L_areGuestsRight G hL hJ) rfl rfl (Nat.le_of_ble_eq_true rfl) (by rw [RM]; exact ⟨Nat.le_of_ble_eq_true rfl, Nat.le_of_ble_eq_true rfl⟩) (by rw [RM]; have rC := rm_C; have rS := rm_S; show _ + _ ≤ room_1.cells ∧ _ + _ ≤ room_1.slots; omega) dL_law_41 (fun v hz q => ?_) (fun _ _ q => q.elim)
      obtain ⟨_, rfl, P41, hL, hJ, rfl⟩ := q
      refine GJ.seq (st' := [.int 1]) rfl ?_
      refine g_if_eq 51 X dL_law_44 (by decide) (fun c44 => ?_) (fun c44 => ?_)
      · skip
        exact absurd c44 (by decide)
      · skip
        refine g_iconst (v := 1) X dL_law_47 (by decide) ?_
        refine g_goto 52 X dL_law_48 (by decide) ?_
        refine g_istore (lv' := [(6, .int 1), (4, .long 0), (2, .long x14), (1, .ref q), (0, .ref t0)]) X dL_law_52 (by decide) rfl ?_
        refine g_iconst (v := 0) X dL_law_54 (by decide) ?_
        refine g_istore (lv' := [(7, .int 0), (6, .int 1), (4, .long 0), (2, .long x14), (1, .ref q), (0, .ref t0)]) X dL_law_55 (by decide) rfl ?_
        exact law_loop G X RM hA hN hV1 hF1 hV2 hF2 END 36 0 _ _ 0 0 0 P41 _ hL hJ rfl (by omega) (by omega) rfl
end GLAW
