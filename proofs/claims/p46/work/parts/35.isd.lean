/-! isDispatched: its contract -/
section GISD
variable {Z : gEnv} {h : gH} {B O : Int64} {t : Int32} {a : Nat} {P : gP}
set_option maxHeartbeats 4000000 in
set_option maxRecDepth 100000 in
theorem c_L_isD_n (G : gG Z) (hL : LR Z a P h) (hJ : LJ B O t P) {x : Int32} {r : Nat} (hx : x = nI r) (hr : r < 2) (hk : ¬ fKp P r = 46) : gMet Z yL_isDispatched cL_isDispatched 7 (some .boolean) 12 1 6 [.ref a, .int x] h (qP Z a (fun y P2 => LJ B O t P2 ∧ y = 1)) qN := by
  refine g_enter (lv := [(0, .ref a), (1, .int x)]) G.2 (by decide +kernel) (Nat.le_of_ble_eq_true rfl) rfl (fun Γ X Nt E RM => ?_)
  refine g_aload_n X dL_isDispatched_0 rfl ?_
  refine g_bipush (v := 30) X dL_isDispatched_1 (by decide) ?_
  refine g_iload_n X dL_isDispatched_3 rfl ?_
  refine g_iconst (v := 0) X dL_isDispatched_4 (by decide) ?_
  refine g_callS X lm_L_179 (a_30 G hL hJ.inv (r := r) hx (hJ.r hr)) rfl rfl (Nat.le_of_ble_eq_true rfl) (by rw [RM]; exact ⟨Nat.le_of_ble_eq_true rfl, Nat.le_of_ble_eq_true rfl⟩) (by rw [RM]; show _ + _ ≤ 1 ∧ _ + _ ≤ 6; omega) dL_isDispatched_5 (fun v hz q => ?_) (fun _ _ q => q.elim)
  obtain ⟨x5, rfl, e5, rfl⟩ := q
  refine GJ.seq (st' := [.int x5]) rfl ?_
  refine g_istore_n (lv' := [(2, .int x5), (0, .ref a), (1, .int x)]) X dL_isDispatched_8 (by decide) rfl ?_
  refine g_aload_n X dL_isDispatched_9 rfl ?_
  refine g_bipush (v := 43) X dL_isDispatched_10 (by decide) ?_
  refine g_iload_n X dL_isDispatched_12 rfl ?_
  refine g_iconst (v := 0) X dL_isDispatched_13 (by decide) ?_
  refine g_callS X lm_L_179 (a_43 G hL hJ.inv (r := r) hx (hJ.r hr)) rfl rfl (Nat.le_of_ble_eq_true rfl) (by rw [RM]; exact ⟨Nat.le_of_ble_eq_true rfl, Nat.le_of_ble_eq_true rfl⟩) (by rw [RM]; show _ + _ ≤ 1 ∧ _ + _ ≤ 6; omega) dL_isDispatched_14 (fun v hz q => ?_) (fun _ _ q => q.elim)
  obtain ⟨x14, rfl, e14, rfl⟩ := q
  refine GJ.seq (st' := [.int x14]) rfl ?_
  refine g_istore_n (lv' := [(3, .int x14), (2, .int x5), (0, .ref a), (1, .int x)]) X dL_isDispatched_17 (by decide) rfl ?_
  refine g_aload_n X dL_isDispatched_18 rfl ?_
  refine g_bipush (v := 39) X dL_isDispatched_19 (by decide) ?_
  refine g_iload_n X dL_isDispatched_21 rfl ?_
  refine g_bipush (v := 108) X dL_isDispatched_22 (by decide) ?_
  refine g_callS X lm_L_179 (a_39 G hL hJ.inv (r := r) hx (hJ.r hr) (q := 0) (Or.inl ⟨rfl, rfl⟩)) rfl rfl (Nat.le_of_ble_eq_true rfl) (by rw [RM]; exact ⟨Nat.le_of_ble_eq_true rfl, Nat.le_of_ble_eq_true rfl⟩) (by rw [RM]; show _ + _ ≤ 1 ∧ _ + _ ≤ 6; omega) dL_isDispatched_24 (fun v hz q => ?_) (fun _ _ q => q.elim)
  obtain ⟨x24, rfl, e24, rfl⟩ := q
  refine GJ.seq (st' := [.int x24]) rfl ?_
  refine g_aload_n X dL_isDispatched_27 rfl ?_
  refine g_bipush (v := 39) X dL_isDispatched_28 (by decide) ?_
  refine g_iload_n X dL_isDispatched_30 rfl ?_
  refine g_bipush (v := 115) X dL_isDispatched_31 (by decide) ?_
  refine g_callS X lm_L_179 (a_39 G hL hJ.inv (r := r) hx (hJ.r hr) (q := 1) (Or.inr (Or.inl ⟨rfl, rfl⟩))) rfl rfl (Nat.le_of_ble_eq_true rfl) (by rw [RM]; exact ⟨Nat.le_of_ble_eq_true rfl, Nat.le_of_ble_eq_true rfl⟩) (by rw [RM]; show _ + _ ≤ 1 ∧ _ + _ ≤ 6; omega) dL_isDispatched_33 (fun v hz q => ?_) (fun _ _ q => q.elim)
  obtain ⟨x33, rfl, e33, rfl⟩ := q
  refine GJ.seq (st' := [.int x33, .int x24]) rfl ?_
  refine g_iadd X dL_isDispatched_36 (fun x36 e36 => ?_)
  refine g_aload_n X dL_isDispatched_37 rfl ?_
  refine g_bipush (v := 39) X dL_isDispatched_38 (by decide) ?_
  refine g_iload_n X dL_isDispatched_40 rfl ?_
  refine g_bipush (v := 114) X dL_isDispatched_41 (by decide) ?_
  refine g_callS X lm_L_179 (a_39 G hL hJ.inv (r := r) hx (hJ.r hr) (q := 2) (Or.inr (Or.inr ⟨rfl, rfl⟩))) rfl rfl (Nat.le_of_ble_eq_true rfl) (by rw [RM]; exact ⟨Nat.le_of_ble_eq_true rfl, Nat.le_of_ble_eq_true rfl⟩) (by rw [RM]; show _ + _ ≤ 1 ∧ _ + _ ≤ 6; omega) dL_isDispatched_43 (fun v hz q => ?_) (fun _ _ q => q.elim)
  obtain ⟨x43, rfl, e43, rfl⟩ := q
  refine GJ.seq (st' := [.int x43, .int x36]) rfl ?_
  refine g_iadd X dL_isDispatched_46 (fun x46 e46 => ?_)
  refine g_istore (lv' := [(4, .int x46), (3, .int x14), (2, .int x5), (0, .ref a), (1, .int x)]) X dL_isDispatched_47 (by decide) rfl ?_
  refine g_aload_n X dL_isDispatched_49 rfl ?_
  refine g_bipush (v := 13) X dL_isDispatched_50 (by decide) ?_
  refine g_iload_n X dL_isDispatched_52 rfl ?_
  refine g_iconst (v := 0) X dL_isDispatched_53 (by decide) ?_
  refine g_callS X lm_L_179 (a_13_no G hL hJ (r := r) hx hr hk) rfl rfl (Nat.le_of_ble_eq_true rfl) (by rw [RM]; exact ⟨Nat.le_of_ble_eq_true rfl, Nat.le_of_ble_eq_true rfl⟩) (by rw [RM]; show _ + _ ≤ 1 ∧ _ + _ ≤ 6; omega) dL_isDispatched_54 (fun v hz q => ?_) (fun _ _ q => q.elim)
  obtain ⟨x54, rfl, e54, rfl⟩ := q
  refine GJ.seq (st' := [.int x54]) rfl ?_
  refine g_istore (lv' := [(5, .int x54), (4, .int x46), (3, .int x14), (2, .int x5), (0, .ref a), (1, .int x)]) X dL_isDispatched_57 (by decide) rfl ?_
  refine g_aload_n X dL_isDispatched_59 rfl ?_
  refine g_bipush (v := 39) X dL_isDispatched_60 (by decide) ?_
  refine g_iload_n X dL_isDispatched_62 rfl ?_
  refine g_bipush (v := 108) X dL_isDispatched_63 (by decide) ?_
  refine g_callS X lm_L_179 (a_39 G hL hJ.inv (r := r) hx (hJ.r hr) (q := 0) (Or.inl ⟨rfl, rfl⟩)) rfl rfl (Nat.le_of_ble_eq_true rfl) (by rw [RM]; exact ⟨Nat.le_of_ble_eq_true rfl, Nat.le_of_ble_eq_true rfl⟩) (by rw [RM]; show _ + _ ≤ 1 ∧ _ + _ ≤ 6; omega) dL_isDispatched_65 (fun v hz q => ?_) (fun _ _ q => q.elim)
  obtain ⟨x65, rfl, e65, rfl⟩ := q
  refine GJ.seq (st' := [.int x65]) rfl ?_
  refine g_aload_n X dL_isDispatched_68 rfl ?_
  refine g_bipush (v := 39) X dL_isDispatched_69 (by decide) ?_
  refine g_iload_n X dL_isDispatched_71 rfl ?_
  refine g_bipush (v := 115) X dL_isDispatched_72 (by decide) ?_
  refine g_callS X lm_L_179 (a_39 G hL hJ.inv (r := r) hx (hJ.r hr) (q := 1) (Or.inr (Or.inl ⟨rfl, rfl⟩))) rfl rfl (Nat.le_of_ble_eq_true rfl) (by rw [RM]; exact ⟨Nat.le_of_ble_eq_true rfl, Nat.le_of_ble_eq_true rfl⟩) (by rw [RM]; show _ + _ ≤ 1 ∧ _ + _ ≤ 6; omega) dL_isDispatched_74 (fun v hz q => ?_) (fun _ _ q => q.elim)
  obtain ⟨x74, rfl, e74, rfl⟩ := q
  refine GJ.seq (st' := [.int x74, .int x65]) rfl ?_
  refine g_iadd X dL_isDispatched_77 (fun x77 e77 => ?_)
  refine g_aload_n X dL_isDispatched_78 rfl ?_
  refine g_bipush (v := 39) X dL_isDispatched_79 (by decide) ?_
  refine g_iload_n X dL_isDispatched_81 rfl ?_
  refine g_bipush (v := 114) X dL_isDispatched_82 (by decide) ?_
  refine g_callS X lm_L_179 (a_39 G hL hJ.inv (r := r) hx (hJ.r hr) (q := 2) (Or.inr (Or.inr ⟨rfl, rfl⟩))) rfl rfl (Nat.le_of_ble_eq_true rfl) (by rw [RM]; exact ⟨Nat.le_of_ble_eq_true rfl, Nat.le_of_ble_eq_true rfl⟩) (by rw [RM]; show _ + _ ≤ 1 ∧ _ + _ ≤ 6; omega) dL_isDispatched_84 (fun v hz q => ?_) (fun _ _ q => q.elim)
  obtain ⟨x84, rfl, e84, rfl⟩ := q
  refine GJ.seq (st' := [.int x84, .int x77]) rfl ?_
  refine g_iadd X dL_isDispatched_87 (fun x87 e87 => ?_)
  refine g_istore (lv' := [(6, .int x87), (5, .int x54), (4, .int x46), (3, .int x14), (2, .int x5), (0, .ref a), (1, .int x)]) X dL_isDispatched_88 (by decide) rfl ?_
  refine g_iload_n X dL_isDispatched_90 rfl ?_
  refine g_bipush (v := 46) X dL_isDispatched_91 (by decide) ?_
  refine g_icmp_eq 129 X dL_isDispatched_93 (by decide) (fun c93 => ?_) (fun c93 => ?_)
  · skip
    exact absurd (e5.symm.trans c93) hk
  · skip
    refine g_iload X dL_isDispatched_96 rfl ?_
    refine g_sipush (v := (-2004)) X dL_isDispatched_98 (by decide) ?_
    refine g_icmp_ne 127 X dL_isDispatched_101 (by decide) (fun c101 => ?_) (fun c101 => ?_)
    · skip
      exact absurd e54 c101
    · skip
      refine g_aload_n X dL_isDispatched_104 rfl ?_
      refine g_bipush (v := 43) X dL_isDispatched_105 (by decide) ?_
      refine g_iload_n X dL_isDispatched_107 rfl ?_
      refine g_iconst (v := 0) X dL_isDispatched_108 (by decide) ?_
      refine g_callS X lm_L_179 (a_43 G hL hJ.inv (r := r) hx (hJ.r hr)) rfl rfl (Nat.le_of_ble_eq_true rfl) (by rw [RM]; exact ⟨Nat.le_of_ble_eq_true rfl, Nat.le_of_ble_eq_true rfl⟩) (by rw [RM]; show _ + _ ≤ 1 ∧ _ + _ ≤ 6; omega) dL_isDispatched_109 (fun v hz q => ?_) (fun _ _ q => q.elim)
      obtain ⟨x109, rfl, e109, rfl⟩ := q
      refine GJ.seq (st' := [.int x109]) rfl ?_
      refine g_iload_n X dL_isDispatched_112 rfl ?_
      refine g_icmp_ne 127 X dL_isDispatched_113 (by decide) (fun c113 => ?_) (fun c113 => ?_)
      · skip
        exact absurd (e109.trans e14.symm) c113
      · skip
        refine g_iload X dL_isDispatched_116 rfl ?_
        refine g_iload X dL_isDispatched_118 rfl ?_
        refine g_icmp_ne 127 X dL_isDispatched_120 (by decide) (fun c120 => ?_) (fun c120 => ?_)
        · skip
          exact absurd (by rw [e87, e77, e65, e74, e84, e46, e36, e24, e33, e43]) c120
        · skip
          refine g_iconst (v := 1) X dL_isDispatched_123 (by decide) ?_
          refine g_goto 128 X dL_isDispatched_124 (by decide) ?_
          refine g_ireturn X E (by decide) dL_isDispatched_128 (by omega) (by omega) ?_
          exact ⟨_, rfl, _, hL, hJ, rfl⟩
set_option maxHeartbeats 4000000 in
set_option maxRecDepth 100000 in
theorem c_L_isD_y (G : gG Z) (hL : LR Z a P h) (hJ : LJ B O t P) {x : Int32} {r : Nat} (hx : x = nI r) (hr : r < 2) (hk : fKp P r = 46) : gMet Z yL_isDispatched cL_isDispatched 7 (some .boolean) 12 1 6 [.ref a, .int x] h (qP Z a (fun y P2 => LJ B O t P2 ∧ y = 1)) qN := by
  refine g_enter (lv := [(0, .ref a), (1, .int x)]) G.2 (by decide +kernel) (Nat.le_of_ble_eq_true rfl) rfl (fun Γ X Nt E RM => ?_)
  refine g_aload_n X dL_isDispatched_0 rfl ?_
  refine g_bipush (v := 30) X dL_isDispatched_1 (by decide) ?_
  refine g_iload_n X dL_isDispatched_3 rfl ?_
  refine g_iconst (v := 0) X dL_isDispatched_4 (by decide) ?_
  refine g_callS X lm_L_179 (a_30 G hL hJ.inv (r := r) hx (hJ.r hr)) rfl rfl (Nat.le_of_ble_eq_true rfl) (by rw [RM]; exact ⟨Nat.le_of_ble_eq_true rfl, Nat.le_of_ble_eq_true rfl⟩) (by rw [RM]; show _ + _ ≤ 1 ∧ _ + _ ≤ 6; omega) dL_isDispatched_5 (fun v hz q => ?_) (fun _ _ q => q.elim)
  obtain ⟨x5, rfl, e5, rfl⟩ := q
  refine GJ.seq (st' := [.int x5]) rfl ?_
  refine g_istore_n (lv' := [(2, .int x5), (0, .ref a), (1, .int x)]) X dL_isDispatched_8 (by decide) rfl ?_
  refine g_aload_n X dL_isDispatched_9 rfl ?_
  refine g_bipush (v := 43) X dL_isDispatched_10 (by decide) ?_
  refine g_iload_n X dL_isDispatched_12 rfl ?_
  refine g_iconst (v := 0) X dL_isDispatched_13 (by decide) ?_
  refine g_callS X lm_L_179 (a_43 G hL hJ.inv (r := r) hx (hJ.r hr)) rfl rfl (Nat.le_of_ble_eq_true rfl) (by rw [RM]; exact ⟨Nat.le_of_ble_eq_true rfl, Nat.le_of_ble_eq_true rfl⟩) (by rw [RM]; show _ + _ ≤ 1 ∧ _ + _ ≤ 6; omega) dL_isDispatched_14 (fun v hz q => ?_) (fun _ _ q => q.elim)
  obtain ⟨x14, rfl, e14, rfl⟩ := q
  refine GJ.seq (st' := [.int x14]) rfl ?_
  refine g_istore_n (lv' := [(3, .int x14), (2, .int x5), (0, .ref a), (1, .int x)]) X dL_isDispatched_17 (by decide) rfl ?_
  refine g_aload_n X dL_isDispatched_18 rfl ?_
  refine g_bipush (v := 39) X dL_isDispatched_19 (by decide) ?_
  refine g_iload_n X dL_isDispatched_21 rfl ?_
  refine g_bipush (v := 108) X dL_isDispatched_22 (by decide) ?_
  refine g_callS X lm_L_179 (a_39 G hL hJ.inv (r := r) hx (hJ.r hr) (q := 0) (Or.inl ⟨rfl, rfl⟩)) rfl rfl (Nat.le_of_ble_eq_true rfl) (by rw [RM]; exact ⟨Nat.le_of_ble_eq_true rfl, Nat.le_of_ble_eq_true rfl⟩) (by rw [RM]; show _ + _ ≤ 1 ∧ _ + _ ≤ 6; omega) dL_isDispatched_24 (fun v hz q => ?_) (fun _ _ q => q.elim)
  obtain ⟨x24, rfl, e24, rfl⟩ := q
  refine GJ.seq (st' := [.int x24]) rfl ?_
  refine g_aload_n X dL_isDispatched_27 rfl ?_
  refine g_bipush (v := 39) X dL_isDispatched_28 (by decide) ?_
  refine g_iload_n X dL_isDispatched_30 rfl ?_
  refine g_bipush (v := 115) X dL_isDispatched_31 (by decide) ?_
  refine g_callS X lm_L_179 (a_39 G hL hJ.inv (r := r) hx (hJ.r hr) (q := 1) (Or.inr (Or.inl ⟨rfl, rfl⟩))) rfl rfl (Nat.le_of_ble_eq_true rfl) (by rw [RM]; exact ⟨Nat.le_of_ble_eq_true rfl, Nat.le_of_ble_eq_true rfl⟩) (by rw [RM]; show _ + _ ≤ 1 ∧ _ + _ ≤ 6; omega) dL_isDispatched_33 (fun v hz q => ?_) (fun _ _ q => q.elim)
  obtain ⟨x33, rfl, e33, rfl⟩ := q
  refine GJ.seq (st' := [.int x33, .int x24]) rfl ?_
  refine g_iadd X dL_isDispatched_36 (fun x36 e36 => ?_)
  refine g_aload_n X dL_isDispatched_37 rfl ?_
  refine g_bipush (v := 39) X dL_isDispatched_38 (by decide) ?_
  refine g_iload_n X dL_isDispatched_40 rfl ?_
  refine g_bipush (v := 114) X dL_isDispatched_41 (by decide) ?_
  refine g_callS X lm_L_179 (a_39 G hL hJ.inv (r := r) hx (hJ.r hr) (q := 2) (Or.inr (Or.inr ⟨rfl, rfl⟩))) rfl rfl (Nat.le_of_ble_eq_true rfl) (by rw [RM]; exact ⟨Nat.le_of_ble_eq_true rfl, Nat.le_of_ble_eq_true rfl⟩) (by rw [RM]; show _ + _ ≤ 1 ∧ _ + _ ≤ 6; omega) dL_isDispatched_43 (fun v hz q => ?_) (fun _ _ q => q.elim)
  obtain ⟨x43, rfl, e43, rfl⟩ := q
  refine GJ.seq (st' := [.int x43, .int x36]) rfl ?_
  refine g_iadd X dL_isDispatched_46 (fun x46 e46 => ?_)
  refine g_istore (lv' := [(4, .int x46), (3, .int x14), (2, .int x5), (0, .ref a), (1, .int x)]) X dL_isDispatched_47 (by decide) rfl ?_
  refine g_aload_n X dL_isDispatched_49 rfl ?_
  refine g_bipush (v := 13) X dL_isDispatched_50 (by decide) ?_
  refine g_iload_n X dL_isDispatched_52 rfl ?_
  refine g_iconst (v := 0) X dL_isDispatched_53 (by decide) ?_
  refine g_callS X lm_L_179 (a_13 G hL hJ (r := r) hx hr hk) rfl rfl (Nat.le_of_ble_eq_true rfl) (by rw [RM]; exact ⟨Nat.le_of_ble_eq_true rfl, Nat.le_of_ble_eq_true rfl⟩) (by rw [RM]; show _ + _ ≤ 1 ∧ _ + _ ≤ 6; omega) dL_isDispatched_54 (fun v hz q => ?_) (fun _ _ q => q.elim)
  obtain ⟨x54, rfl, P54, hL, hJ, e54a, e54b, e54c, e54d⟩ := q
  refine GJ.seq (st' := [.int x54]) rfl ?_
  refine g_istore (lv' := [(5, .int x54), (4, .int x46), (3, .int x14), (2, .int x5), (0, .ref a), (1, .int x)]) X dL_isDispatched_57 (by decide) rfl ?_
  refine g_aload_n X dL_isDispatched_59 rfl ?_
  refine g_bipush (v := 39) X dL_isDispatched_60 (by decide) ?_
  refine g_iload_n X dL_isDispatched_62 rfl ?_
  refine g_bipush (v := 108) X dL_isDispatched_63 (by decide) ?_
  refine g_callS X lm_L_179 (a_39 G hL hJ.inv (r := r) hx (hJ.r hr) (q := 0) (Or.inl ⟨rfl, rfl⟩)) rfl rfl (Nat.le_of_ble_eq_true rfl) (by rw [RM]; exact ⟨Nat.le_of_ble_eq_true rfl, Nat.le_of_ble_eq_true rfl⟩) (by rw [RM]; show _ + _ ≤ 1 ∧ _ + _ ≤ 6; omega) dL_isDispatched_65 (fun v hz q => ?_) (fun _ _ q => q.elim)
  obtain ⟨x65, rfl, e65, rfl⟩ := q
  refine GJ.seq (st' := [.int x65]) rfl ?_
  refine g_aload_n X dL_isDispatched_68 rfl ?_
  refine g_bipush (v := 39) X dL_isDispatched_69 (by decide) ?_
  refine g_iload_n X dL_isDispatched_71 rfl ?_
  refine g_bipush (v := 115) X dL_isDispatched_72 (by decide) ?_
  refine g_callS X lm_L_179 (a_39 G hL hJ.inv (r := r) hx (hJ.r hr) (q := 1) (Or.inr (Or.inl ⟨rfl, rfl⟩))) rfl rfl (Nat.le_of_ble_eq_true rfl) (by rw [RM]; exact ⟨Nat.le_of_ble_eq_true rfl, Nat.le_of_ble_eq_true rfl⟩) (by rw [RM]; show _ + _ ≤ 1 ∧ _ + _ ≤ 6; omega) dL_isDispatched_74 (fun v hz q => ?_) (fun _ _ q => q.elim)
  obtain ⟨x74, rfl, e74, rfl⟩ := q
  refine GJ.seq (st' := [.int x74, .int x65]) rfl ?_
  refine g_iadd X dL_isDispatched_77 (fun x77 e77 => ?_)
  refine g_aload_n X dL_isDispatched_78 rfl ?_
  refine g_bipush (v := 39) X dL_isDispatched_79 (by decide) ?_
  refine g_iload_n X dL_isDispatched_81 rfl ?_
  refine g_bipush (v := 114) X dL_isDispatched_82 (by decide) ?_
  refine g_callS X lm_L_179 (a_39 G hL hJ.inv (r := r) hx (hJ.r hr) (q := 2) (Or.inr (Or.inr ⟨rfl, rfl⟩))) rfl rfl (Nat.le_of_ble_eq_true rfl) (by rw [RM]; exact ⟨Nat.le_of_ble_eq_true rfl, Nat.le_of_ble_eq_true rfl⟩) (by rw [RM]; show _ + _ ≤ 1 ∧ _ + _ ≤ 6; omega) dL_isDispatched_84 (fun v hz q => ?_) (fun _ _ q => q.elim)
  obtain ⟨x84, rfl, e84, rfl⟩ := q
  refine GJ.seq (st' := [.int x84, .int x77]) rfl ?_
  refine g_iadd X dL_isDispatched_87 (fun x87 e87 => ?_)
  refine g_istore (lv' := [(6, .int x87), (5, .int x54), (4, .int x46), (3, .int x14), (2, .int x5), (0, .ref a), (1, .int x)]) X dL_isDispatched_88 (by decide) rfl ?_
  refine g_iload_n X dL_isDispatched_90 rfl ?_
  refine g_bipush (v := 46) X dL_isDispatched_91 (by decide) ?_
  refine g_icmp_eq 129 X dL_isDispatched_93 (by decide) (fun c93 => ?_) (fun c93 => ?_)
  · skip
    refine g_iload X dL_isDispatched_129 rfl ?_
    refine g_if_lt 175 X dL_isDispatched_131 (by decide) (fun c131 => ?_) (fun c131 => ?_)
    · skip
      exact absurd c131 e54c
    · skip
      refine g_iload X dL_isDispatched_134 rfl ?_
      refine g_iload X dL_isDispatched_136 rfl ?_
      refine g_iload X dL_isDispatched_138 rfl ?_
      refine g_isub X dL_isDispatched_140 (fun x140 e140 => ?_)
      refine g_icmp_ne 175 X dL_isDispatched_141 (by decide) (fun c141 => ?_) (fun c141 => ?_)
      · skip
        exact absurd (by rw [e87, e77, e65, e74, e84, e140, e46, e36, e24, e33, e43]; exact e54d) c141
      · skip
        refine g_aload_n X dL_isDispatched_144 rfl ?_
        refine g_bipush (v := 43) X dL_isDispatched_145 (by decide) ?_
        refine g_iload_n X dL_isDispatched_147 rfl ?_
        refine g_iconst (v := 0) X dL_isDispatched_148 (by decide) ?_
        refine g_callS X lm_L_179 (a_43 G hL hJ.inv (r := r) hx (hJ.r hr)) rfl rfl (Nat.le_of_ble_eq_true rfl) (by rw [RM]; exact ⟨Nat.le_of_ble_eq_true rfl, Nat.le_of_ble_eq_true rfl⟩) (by rw [RM]; show _ + _ ≤ 1 ∧ _ + _ ≤ 6; omega) dL_isDispatched_149 (fun v hz q => ?_) (fun _ _ q => q.elim)
        obtain ⟨x149, rfl, e149, rfl⟩ := q
        refine GJ.seq (st' := [.int x149]) rfl ?_
        refine g_iload_n X dL_isDispatched_152 rfl ?_
        refine g_iconst (v := 1) X dL_isDispatched_153 (by decide) ?_
        refine g_iadd X dL_isDispatched_154 (fun x154 e154 => ?_)
        refine g_icmp_ne 175 X dL_isDispatched_155 (by decide) (fun c155 => ?_) (fun c155 => ?_)
        · skip
          exact absurd (by rw [e149, e154, e14]; exact e54a) c155
        · skip
          refine g_aload_n X dL_isDispatched_158 rfl ?_
          refine g_bipush (v := 30) X dL_isDispatched_159 (by decide) ?_
          refine g_iload_n X dL_isDispatched_161 rfl ?_
          refine g_iconst (v := 0) X dL_isDispatched_162 (by decide) ?_
          refine g_callS X lm_L_179 (a_30 G hL hJ.inv (r := r) hx (hJ.r hr)) rfl rfl (Nat.le_of_ble_eq_true rfl) (by rw [RM]; exact ⟨Nat.le_of_ble_eq_true rfl, Nat.le_of_ble_eq_true rfl⟩) (by rw [RM]; show _ + _ ≤ 1 ∧ _ + _ ≤ 6; omega) dL_isDispatched_163 (fun v hz q => ?_) (fun _ _ q => q.elim)
          obtain ⟨x163, rfl, e163, rfl⟩ := q
          refine GJ.seq (st' := [.int x163]) rfl ?_
          refine g_bipush (v := 110) X dL_isDispatched_166 (by decide) ?_
          refine g_icmp_ne 175 X dL_isDispatched_168 (by decide) (fun c168 => ?_) (fun c168 => ?_)
          · skip
            exact absurd (e163.trans e54b) c168
          · skip
            refine g_iconst (v := 1) X dL_isDispatched_171 (by decide) ?_
            refine g_goto 176 X dL_isDispatched_172 (by decide) ?_
            refine g_ireturn X E (by decide) dL_isDispatched_176 (by omega) (by omega) ?_
            exact ⟨_, rfl, _, hL, hJ, rfl⟩
  · skip
    exact absurd (e5.trans hk) c93
theorem c_L_isDispatched (G : gG Z) (hL : LR Z a P h) (hJ : LJ B O t P) {x : Int32} {r : Nat} (hx : x = nI r) (hr : r < 2) : gMet Z yL_isDispatched cL_isDispatched 7 (some .boolean) 12 1 6 [.ref a, .int x] h (qP Z a (fun y P2 => LJ B O t P2 ∧ y = 1)) qN := by
  by_cases hk : fKp P r = 46
  · exact c_L_isD_y G hL hJ hx hr hk
  · exact c_L_isD_n G hL hJ hx hr hk
end GISD
