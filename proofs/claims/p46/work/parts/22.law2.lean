/-! the law's calls: done, asked, one theorem a call, by any contract of the park's method -/
section GLAW2
variable {Z : gEnv} {h : gH}
/-- every answer is a number -/
def gNum (Q : Option Value → gH → Prop) : Prop := ∀ v h', Q v h' → ∃ x : Int32, v = some (.int x)
def qTold (Q : Option Value → gH → Prop) : Option Value → gH → Prop := fun v h' => ∃ x : Int32, Q (some (.int x)) h' ∧ v = some (.int (if x = 0 then 0 else 1))
theorem gNum.told {Q : Option Value → gH → Prop} : gNum (qTold Q) := fun v h' q => by
  obtain ⟨x, -, rfl⟩ := q
  exact ⟨_, rfl⟩
theorem g_told {Z : gEnv} {h : gH} (G : gG Z) {x : Int32} : gMet Z yL_told cL_told 1 (some .int) 1 0 0 [.int x] h (qI h (fun y => y = if x = 0 then 0 else 1)) qN := by
  refine g_enter (lv := [(0, .int x)]) G.2 (by decide +kernel) (Nat.le_of_ble_eq_true rfl) rfl (fun Γ X Nt E RM => ?_)
  refine g_iload_n X dL_told_0 rfl ?_
  refine g_if_eq 8 X dL_told_1 (by decide) (fun c1 => ?_) (fun c1 => ?_)
  · refine g_iconst (v := 0) X dL_told_8 (by decide) ?_
    refine g_ireturn X E rfl dL_told_9 (by decide) (by decide) ?_
    exact ⟨_, rfl, by simp_all, rfl⟩
  · refine g_iconst (v := 1) X dL_told_4 (by decide) ?_
    refine g_goto 9 X dL_told_5 (by decide) ?_
    refine g_ireturn X E rfl dL_told_9 (by decide) (by decide) ?_
    exact ⟨_, rfl, by simp_all, rfl⟩
set_option maxHeartbeats 4000000 in
set_option maxRecDepth 100000 in
theorem c_L_done_0 (G : gG Z) {a0 d mc ms : Nat} {fs : List Value} (hb : h a0 = some (.inr (8, fs))) {a1 a2 a3 a4 a5 : Int32} {Q : Option Value → gH → Prop} {QX : String → gH → Prop} (hQ : gNum Q) (hM : gMet Z yX6_addRide cX6_addRide 4 ((Option.some FieldType.int)) d mc ms [.ref a0, .int a1, .int a2, .int a3] h Q QX) : gMet Z yL_done cL_done 7 ((Option.some FieldType.int)) (d + 1) mc ms [.ref a0, .int 0, .int a1, .int a2, .int a3, .int a4, .int a5] h (Q) QX := by
  refine g_enter (lv := [(0, .ref a0), (1, .int 0), (2, .int a1), (3, .int a2), (4, .int a3), (5, .int a4), (6, .int a5)]) G.2 (by decide +kernel) (Nat.le_of_ble_eq_true rfl) rfl (fun Γ X Nt E RM => ?_)
  refine g_iload_n X dL_done_0 rfl ?_
  refine g_tableIn 100 X dL_done_1 (by decide) (by decide) rfl (by decide) ?_
  refine g_aload_n X dL_done_100 rfl ?_
  refine g_iload_n X dL_done_101 rfl ?_
  refine g_iload_n X dL_done_102 rfl ?_
  refine g_iload X dL_done_103 rfl ?_
  refine g_callV X lm_L_15 hM cl_X6 hb rfl rfl (Nat.le_of_ble_eq_true rfl) (by rw [RM]; show d + 1 ≤ d + 1 ∧ 8 + (4 + 11) + 50 * d ≤ 50 * (d + 1); omega) (by rw [RM]; show 0 + mc ≤ mc ∧ 0 + ms ≤ ms; omega) dL_done_105 (fun v h1 q => ?_) (fun E1 h1 q => g_out X Nt E (by omega) (by omega) q)
  obtain ⟨x, rfl⟩ := hQ v h1 q
  refine GJ.seq (st' := [.int x]) rfl ?_
  refine g_ireturn X E rfl dL_done_108 (by omega) (by omega) ?_
  exact q
set_option maxHeartbeats 4000000 in
set_option maxRecDepth 100000 in
theorem c_L_done_1 (G : gG Z) {a0 d mc ms : Nat} {fs : List Value} (hb : h a0 = some (.inr (8, fs))) {a1 a2 a3 a4 a5 : Int32} {Q : Option Value → gH → Prop} {QX : String → gH → Prop} (hc_a2 : (a2.toUInt32 % 65536).toInt32 = a2) (hQ : gNum Q) (hM : gMet Z yX6_addBlock cX6_addBlock 7 ((Option.some FieldType.int)) d mc ms [.ref a0, .int a1, .int a2, .int a3, .int a4, .int a5] h Q QX) : gMet Z yL_done cL_done 7 ((Option.some FieldType.int)) (d + 1) mc ms [.ref a0, .int 1, .int a1, .int a2, .int a3, .int a4, .int a5] h (Q) QX := by
  refine g_enter (lv := [(0, .ref a0), (1, .int 1), (2, .int a1), (3, .int a2), (4, .int a3), (5, .int a4), (6, .int a5)]) G.2 (by decide +kernel) (Nat.le_of_ble_eq_true rfl) rfl (fun Γ X Nt E RM => ?_)
  refine g_iload_n X dL_done_0 rfl ?_
  refine g_tableIn 109 X dL_done_1 (by decide) (by decide) rfl (by decide) ?_
  refine g_aload_n X dL_done_109 rfl ?_
  refine g_iload_n X dL_done_110 rfl ?_
  refine g_iload_n X dL_done_111 rfl ?_
  refine g_i2c X dL_done_112 (fun x112 e112 => ?_)
  rw [hc_a2] at e112
  subst e112
  refine g_iload X dL_done_113 rfl ?_
  refine g_iload X dL_done_115 rfl ?_
  refine g_iload X dL_done_117 rfl ?_
  refine g_callV X lm_L_21 hM cl_X6 hb rfl rfl (Nat.le_of_ble_eq_true rfl) (by rw [RM]; show d + 1 ≤ d + 1 ∧ 8 + (7 + 11) + 50 * d ≤ 50 * (d + 1); omega) (by rw [RM]; show 0 + mc ≤ mc ∧ 0 + ms ≤ ms; omega) dL_done_119 (fun v h1 q => ?_) (fun E1 h1 q => g_out X Nt E (by omega) (by omega) q)
  obtain ⟨x, rfl⟩ := hQ v h1 q
  refine GJ.seq (st' := [.int x]) rfl ?_
  refine g_ireturn X E rfl dL_done_122 (by omega) (by omega) ?_
  exact q
set_option maxHeartbeats 4000000 in
set_option maxRecDepth 100000 in
theorem c_L_done_2 (G : gG Z) {a0 d mc ms : Nat} {fs : List Value} (hb : h a0 = some (.inr (8, fs))) {a1 a2 a3 a4 a5 : Int32} {Q : Option Value → gH → Prop} {QX : String → gH → Prop} (hQ : gNum Q) (hM : gMet Z yX6_close cX6_close 3 ((Option.some FieldType.int)) d mc ms [.ref a0, .int a1] h Q QX) : gMet Z yL_done cL_done 7 ((Option.some FieldType.int)) (d + 1) mc ms [.ref a0, .int 2, .int a1, .int a2, .int a3, .int a4, .int a5] h (Q) QX := by
  refine g_enter (lv := [(0, .ref a0), (1, .int 2), (2, .int a1), (3, .int a2), (4, .int a3), (5, .int a4), (6, .int a5)]) G.2 (by decide +kernel) (Nat.le_of_ble_eq_true rfl) rfl (fun Γ X Nt E RM => ?_)
  refine g_iload_n X dL_done_0 rfl ?_
  refine g_tableIn 123 X dL_done_1 (by decide) (by decide) rfl (by decide) ?_
  refine g_aload_n X dL_done_123 rfl ?_
  refine g_iload_n X dL_done_124 rfl ?_
  refine g_callV X lm_L_25 hM cl_X6 hb rfl rfl (Nat.le_of_ble_eq_true rfl) (by rw [RM]; show d + 1 ≤ d + 1 ∧ 8 + (3 + 11) + 50 * d ≤ 50 * (d + 1); omega) (by rw [RM]; show 0 + mc ≤ mc ∧ 0 + ms ≤ ms; omega) dL_done_125 (fun v h1 q => ?_) (fun E1 h1 q => g_out X Nt E (by omega) (by omega) q)
  obtain ⟨x, rfl⟩ := hQ v h1 q
  refine GJ.seq (st' := [.int x]) rfl ?_
  refine g_ireturn X E rfl dL_done_128 (by omega) (by omega) ?_
  exact q
set_option maxHeartbeats 4000000 in
set_option maxRecDepth 100000 in
theorem c_L_done_3 (G : gG Z) {a0 d mc ms : Nat} {fs : List Value} (hb : h a0 = some (.inr (8, fs))) {a1 a2 a3 a4 a5 : Int32} {Q : Option Value → gH → Prop} {QX : String → gH → Prop} (hQ : gNum Q) (hM : gMet Z yX6_addTrain cX6_addTrain 5 ((Option.some FieldType.int)) d mc ms [.ref a0, .int a1, .int a2] h Q QX) : gMet Z yL_done cL_done 7 ((Option.some FieldType.int)) (d + 1) mc ms [.ref a0, .int 3, .int a1, .int a2, .int a3, .int a4, .int a5] h (Q) QX := by
  refine g_enter (lv := [(0, .ref a0), (1, .int 3), (2, .int a1), (3, .int a2), (4, .int a3), (5, .int a4), (6, .int a5)]) G.2 (by decide +kernel) (Nat.le_of_ble_eq_true rfl) rfl (fun Γ X Nt E RM => ?_)
  refine g_iload_n X dL_done_0 rfl ?_
  refine g_tableIn 129 X dL_done_1 (by decide) (by decide) rfl (by decide) ?_
  refine g_aload_n X dL_done_129 rfl ?_
  refine g_iload_n X dL_done_130 rfl ?_
  refine g_iload_n X dL_done_131 rfl ?_
  refine g_callV X lm_L_29 hM cl_X6 hb rfl rfl (Nat.le_of_ble_eq_true rfl) (by rw [RM]; show d + 1 ≤ d + 1 ∧ 8 + (5 + 11) + 50 * d ≤ 50 * (d + 1); omega) (by rw [RM]; show 0 + mc ≤ mc ∧ 0 + ms ≤ ms; omega) dL_done_132 (fun v h1 q => ?_) (fun E1 h1 q => g_out X Nt E (by omega) (by omega) q)
  obtain ⟨x, rfl⟩ := hQ v h1 q
  refine GJ.seq (st' := [.int x]) rfl ?_
  refine g_ireturn X E rfl dL_done_135 (by omega) (by omega) ?_
  exact q
set_option maxHeartbeats 4000000 in
set_option maxRecDepth 100000 in
theorem c_L_done_4 (G : gG Z) {a0 d mc ms : Nat} {fs : List Value} (hb : h a0 = some (.inr (8, fs))) {a1 a2 a3 a4 a5 : Int32} {Q : Option Value → gH → Prop} {QX : String → gH → Prop} (hQ : gNum Q) (hM : gMet Z yX6_addStaff cX6_addStaff 2 ((Option.some FieldType.int)) d mc ms [.ref a0, .int a1] h Q QX) : gMet Z yL_done cL_done 7 ((Option.some FieldType.int)) (d + 1) mc ms [.ref a0, .int 4, .int a1, .int a2, .int a3, .int a4, .int a5] h (Q) QX := by
  refine g_enter (lv := [(0, .ref a0), (1, .int 4), (2, .int a1), (3, .int a2), (4, .int a3), (5, .int a4), (6, .int a5)]) G.2 (by decide +kernel) (Nat.le_of_ble_eq_true rfl) rfl (fun Γ X Nt E RM => ?_)
  refine g_iload_n X dL_done_0 rfl ?_
  refine g_tableIn 136 X dL_done_1 (by decide) (by decide) rfl (by decide) ?_
  refine g_aload_n X dL_done_136 rfl ?_
  refine g_iload_n X dL_done_137 rfl ?_
  refine g_callV X lm_L_33 hM cl_X6 hb rfl rfl (Nat.le_of_ble_eq_true rfl) (by rw [RM]; show d + 1 ≤ d + 1 ∧ 8 + (2 + 11) + 50 * d ≤ 50 * (d + 1); omega) (by rw [RM]; show 0 + mc ≤ mc ∧ 0 + ms ≤ ms; omega) dL_done_138 (fun v h1 q => ?_) (fun E1 h1 q => g_out X Nt E (by omega) (by omega) q)
  obtain ⟨x, rfl⟩ := hQ v h1 q
  refine GJ.seq (st' := [.int x]) rfl ?_
  refine g_ireturn X E rfl dL_done_141 (by omega) (by omega) ?_
  exact q
set_option maxHeartbeats 4000000 in
set_option maxRecDepth 100000 in
theorem c_L_done_5 (G : gG Z) {a0 d mc ms : Nat} {fs : List Value} (hb : h a0 = some (.inr (8, fs))) {a1 a2 a3 a4 a5 : Int32} {Q : Option Value → gH → Prop} {QX : String → gH → Prop} (hQ : gNum Q) (hM : gMet Z yX6_assign cX6_assign 5 ((Option.some FieldType.int)) d mc ms [.ref a0, .int a1, .int a2] h Q QX) : gMet Z yL_done cL_done 7 ((Option.some FieldType.int)) (d + 1) mc ms [.ref a0, .int 5, .int a1, .int a2, .int a3, .int a4, .int a5] h (Q) QX := by
  refine g_enter (lv := [(0, .ref a0), (1, .int 5), (2, .int a1), (3, .int a2), (4, .int a3), (5, .int a4), (6, .int a5)]) G.2 (by decide +kernel) (Nat.le_of_ble_eq_true rfl) rfl (fun Γ X Nt E RM => ?_)
  refine g_iload_n X dL_done_0 rfl ?_
  refine g_tableIn 142 X dL_done_1 (by decide) (by decide) rfl (by decide) ?_
  refine g_aload_n X dL_done_142 rfl ?_
  refine g_iload_n X dL_done_143 rfl ?_
  refine g_iload_n X dL_done_144 rfl ?_
  refine g_callV X lm_L_36 hM cl_X6 hb rfl rfl (Nat.le_of_ble_eq_true rfl) (by rw [RM]; show d + 1 ≤ d + 1 ∧ 8 + (5 + 11) + 50 * d ≤ 50 * (d + 1); omega) (by rw [RM]; show 0 + mc ≤ mc ∧ 0 + ms ≤ ms; omega) dL_done_145 (fun v h1 q => ?_) (fun E1 h1 q => g_out X Nt E (by omega) (by omega) q)
  obtain ⟨x, rfl⟩ := hQ v h1 q
  refine GJ.seq (st' := [.int x]) rfl ?_
  refine g_ireturn X E rfl dL_done_148 (by omega) (by omega) ?_
  exact q
set_option maxHeartbeats 4000000 in
set_option maxRecDepth 100000 in
theorem c_L_done_6 (G : gG Z) {a0 d mc ms : Nat} {fs : List Value} (hb : h a0 = some (.inr (8, fs))) {a1 a2 a3 a4 a5 : Int32} {Q : Option Value → gH → Prop} {QX : String → gH → Prop} (hQ : gNum Q) (hM : gMet Z yX6_inspect cX6_inspect 5 ((Option.some FieldType.int)) d mc ms [.ref a0, .int a1, .int a2] h Q QX) : gMet Z yL_done cL_done 7 ((Option.some FieldType.int)) (d + 1) mc ms [.ref a0, .int 6, .int a1, .int a2, .int a3, .int a4, .int a5] h (Q) QX := by
  refine g_enter (lv := [(0, .ref a0), (1, .int 6), (2, .int a1), (3, .int a2), (4, .int a3), (5, .int a4), (6, .int a5)]) G.2 (by decide +kernel) (Nat.le_of_ble_eq_true rfl) rfl (fun Γ X Nt E RM => ?_)
  refine g_iload_n X dL_done_0 rfl ?_
  refine g_tableIn 149 X dL_done_1 (by decide) (by decide) rfl (by decide) ?_
  refine g_aload_n X dL_done_149 rfl ?_
  refine g_iload_n X dL_done_150 rfl ?_
  refine g_iload_n X dL_done_151 rfl ?_
  refine g_callV X lm_L_39 hM cl_X6 hb rfl rfl (Nat.le_of_ble_eq_true rfl) (by rw [RM]; show d + 1 ≤ d + 1 ∧ 8 + (5 + 11) + 50 * d ≤ 50 * (d + 1); omega) (by rw [RM]; show 0 + mc ≤ mc ∧ 0 + ms ≤ ms; omega) dL_done_152 (fun v h1 q => ?_) (fun E1 h1 q => g_out X Nt E (by omega) (by omega) q)
  obtain ⟨x, rfl⟩ := hQ v h1 q
  refine GJ.seq (st' := [.int x]) rfl ?_
  refine g_ireturn X E rfl dL_done_155 (by omega) (by omega) ?_
  exact q
set_option maxHeartbeats 4000000 in
set_option maxRecDepth 100000 in
theorem c_L_done_7 (G : gG Z) {a0 d mc ms : Nat} {fs : List Value} (hb : h a0 = some (.inr (8, fs))) {a1 a2 a3 a4 a5 : Int32} {Q : Option Value → gH → Prop} {QX : String → gH → Prop} (hQ : gNum Q) (hM : gMet Z yX6_lock cX6_lock 4 ((Option.some FieldType.int)) d mc ms [.ref a0, .int a1, .int a2] h Q QX) : gMet Z yL_done cL_done 7 ((Option.some FieldType.int)) (d + 1) mc ms [.ref a0, .int 7, .int a1, .int a2, .int a3, .int a4, .int a5] h (Q) QX := by
  refine g_enter (lv := [(0, .ref a0), (1, .int 7), (2, .int a1), (3, .int a2), (4, .int a3), (5, .int a4), (6, .int a5)]) G.2 (by decide +kernel) (Nat.le_of_ble_eq_true rfl) rfl (fun Γ X Nt E RM => ?_)
  refine g_iload_n X dL_done_0 rfl ?_
  refine g_tableIn 156 X dL_done_1 (by decide) (by decide) rfl (by decide) ?_
  refine g_aload_n X dL_done_156 rfl ?_
  refine g_iload_n X dL_done_157 rfl ?_
  refine g_iload_n X dL_done_158 rfl ?_
  refine g_callV X lm_L_42 hM cl_X6 hb rfl rfl (Nat.le_of_ble_eq_true rfl) (by rw [RM]; show d + 1 ≤ d + 1 ∧ 8 + (4 + 11) + 50 * d ≤ 50 * (d + 1); omega) (by rw [RM]; show 0 + mc ≤ mc ∧ 0 + ms ≤ ms; omega) dL_done_159 (fun v h1 q => ?_) (fun E1 h1 q => g_out X Nt E (by omega) (by omega) q)
  obtain ⟨x, rfl⟩ := hQ v h1 q
  refine GJ.seq (st' := [.int x]) rfl ?_
  refine g_ireturn X E rfl dL_done_162 (by omega) (by omega) ?_
  exact q
set_option maxHeartbeats 4000000 in
set_option maxRecDepth 100000 in
theorem c_L_done_8 (G : gG Z) {a0 d mc ms : Nat} {fs : List Value} (hb : h a0 = some (.inr (8, fs))) {a1 a2 a3 a4 a5 : Int32} {Q : Option Value → gH → Prop} {QX : String → gH → Prop} (hQ : gNum Q) (hM : gMet Z yX6_unlock cX6_unlock 4 ((Option.some FieldType.int)) d mc ms [.ref a0, .int a1, .int a2] h Q QX) : gMet Z yL_done cL_done 7 ((Option.some FieldType.int)) (d + 1) mc ms [.ref a0, .int 8, .int a1, .int a2, .int a3, .int a4, .int a5] h (Q) QX := by
  refine g_enter (lv := [(0, .ref a0), (1, .int 8), (2, .int a1), (3, .int a2), (4, .int a3), (5, .int a4), (6, .int a5)]) G.2 (by decide +kernel) (Nat.le_of_ble_eq_true rfl) rfl (fun Γ X Nt E RM => ?_)
  refine g_iload_n X dL_done_0 rfl ?_
  refine g_tableIn 163 X dL_done_1 (by decide) (by decide) rfl (by decide) ?_
  refine g_aload_n X dL_done_163 rfl ?_
  refine g_iload_n X dL_done_164 rfl ?_
  refine g_iload_n X dL_done_165 rfl ?_
  refine g_callV X lm_L_45 hM cl_X6 hb rfl rfl (Nat.le_of_ble_eq_true rfl) (by rw [RM]; show d + 1 ≤ d + 1 ∧ 8 + (4 + 11) + 50 * d ≤ 50 * (d + 1); omega) (by rw [RM]; show 0 + mc ≤ mc ∧ 0 + ms ≤ ms; omega) dL_done_166 (fun v h1 q => ?_) (fun E1 h1 q => g_out X Nt E (by omega) (by omega) q)
  obtain ⟨x, rfl⟩ := hQ v h1 q
  refine GJ.seq (st' := [.int x]) rfl ?_
  refine g_ireturn X E rfl dL_done_169 (by omega) (by omega) ?_
  exact q
set_option maxHeartbeats 4000000 in
set_option maxRecDepth 100000 in
theorem c_L_done_9 (G : gG Z) {a0 d mc ms : Nat} {fs : List Value} (hb : h a0 = some (.inr (8, fs))) {a1 a2 a3 a4 a5 : Int32} {Q : Option Value → gH → Prop} {QX : String → gH → Prop} (hc_a4 : (a4.toUInt32 % 65536).toInt32 = a4) (hQ : gNum Q) (hM : gMet Z yX6_setSensor cX6_setSensor 8 ((Option.some FieldType.char)) d mc ms [.ref a0, .int a1, .int a2, .int a3, .int a4] h Q QX) : gMet Z yL_done cL_done 7 ((Option.some FieldType.int)) (d + 1) mc ms [.ref a0, .int 9, .int a1, .int a2, .int a3, .int a4, .int a5] h (Q) QX := by
  refine g_enter (lv := [(0, .ref a0), (1, .int 9), (2, .int a1), (3, .int a2), (4, .int a3), (5, .int a4), (6, .int a5)]) G.2 (by decide +kernel) (Nat.le_of_ble_eq_true rfl) rfl (fun Γ X Nt E RM => ?_)
  refine g_iload_n X dL_done_0 rfl ?_
  refine g_tableIn 170 X dL_done_1 (by decide) (by decide) rfl (by decide) ?_
  refine g_aload_n X dL_done_170 rfl ?_
  refine g_iload_n X dL_done_171 rfl ?_
  refine g_iload_n X dL_done_172 rfl ?_
  refine g_iload X dL_done_173 rfl ?_
  refine g_iload X dL_done_175 rfl ?_
  refine g_i2c X dL_done_177 (fun x177 e177 => ?_)
  rw [hc_a4] at e177
  subst e177
  refine g_callV X lm_L_48 hM cl_X6 hb rfl rfl (Nat.le_of_ble_eq_true rfl) (by rw [RM]; show d + 1 ≤ d + 1 ∧ 8 + (8 + 11) + 50 * d ≤ 50 * (d + 1); omega) (by rw [RM]; show 0 + mc ≤ mc ∧ 0 + ms ≤ ms; omega) dL_done_178 (fun v h1 q => ?_) (fun E1 h1 q => g_out X Nt E (by omega) (by omega) q)
  obtain ⟨x, rfl⟩ := hQ v h1 q
  refine GJ.seq (st' := [.int x]) rfl ?_
  refine g_ireturn X E rfl dL_done_181 (by omega) (by omega) ?_
  exact q
set_option maxHeartbeats 4000000 in
set_option maxRecDepth 100000 in
theorem c_L_done_10 (G : gG Z) {a0 d mc ms : Nat} {fs : List Value} (hb : h a0 = some (.inr (8, fs))) {a1 a2 a3 a4 a5 : Int32} {Q : Option Value → gH → Prop} {QX : String → gH → Prop} (hQ : gNum Q) (hM : gMet Z yX6_reset cX6_reset 3 ((Option.some FieldType.int)) d mc ms [.ref a0, .int a1] h Q QX) : gMet Z yL_done cL_done 7 ((Option.some FieldType.int)) (d + 1) mc ms [.ref a0, .int 10, .int a1, .int a2, .int a3, .int a4, .int a5] h (Q) QX := by
  refine g_enter (lv := [(0, .ref a0), (1, .int 10), (2, .int a1), (3, .int a2), (4, .int a3), (5, .int a4), (6, .int a5)]) G.2 (by decide +kernel) (Nat.le_of_ble_eq_true rfl) rfl (fun Γ X Nt E RM => ?_)
  refine g_iload_n X dL_done_0 rfl ?_
  refine g_tableIn 182 X dL_done_1 (by decide) (by decide) rfl (by decide) ?_
  refine g_aload_n X dL_done_182 rfl ?_
  refine g_iload_n X dL_done_183 rfl ?_
  refine g_callV X lm_L_52 hM cl_X6 hb rfl rfl (Nat.le_of_ble_eq_true rfl) (by rw [RM]; show d + 1 ≤ d + 1 ∧ 8 + (3 + 11) + 50 * d ≤ 50 * (d + 1); omega) (by rw [RM]; show 0 + mc ≤ mc ∧ 0 + ms ≤ ms; omega) dL_done_184 (fun v h1 q => ?_) (fun E1 h1 q => g_out X Nt E (by omega) (by omega) q)
  obtain ⟨x, rfl⟩ := hQ v h1 q
  refine GJ.seq (st' := [.int x]) rfl ?_
  refine g_ireturn X E rfl dL_done_187 (by omega) (by omega) ?_
  exact q
set_option maxHeartbeats 4000000 in
set_option maxRecDepth 100000 in
theorem c_L_done_11 (G : gG Z) {a0 d mc ms : Nat} {fs : List Value} (hb : h a0 = some (.inr (8, fs))) {a1 a2 a3 a4 a5 : Int32} {Q : Option Value → gH → Prop} {QX : String → gH → Prop} (hQ : gNum Q) (hM : gMet Z yX6_setWind cX6_setWind 3 ((Option.some FieldType.int)) d mc ms [.ref a0, .int a1] h Q QX) : gMet Z yL_done cL_done 7 ((Option.some FieldType.int)) (d + 1) mc ms [.ref a0, .int 11, .int a1, .int a2, .int a3, .int a4, .int a5] h (Q) QX := by
  refine g_enter (lv := [(0, .ref a0), (1, .int 11), (2, .int a1), (3, .int a2), (4, .int a3), (5, .int a4), (6, .int a5)]) G.2 (by decide +kernel) (Nat.le_of_ble_eq_true rfl) rfl (fun Γ X Nt E RM => ?_)
  refine g_iload_n X dL_done_0 rfl ?_
  refine g_tableIn 188 X dL_done_1 (by decide) (by decide) rfl (by decide) ?_
  refine g_aload_n X dL_done_188 rfl ?_
  refine g_iload_n X dL_done_189 rfl ?_
  refine g_callV X lm_L_55 hM cl_X6 hb rfl rfl (Nat.le_of_ble_eq_true rfl) (by rw [RM]; show d + 1 ≤ d + 1 ∧ 8 + (3 + 11) + 50 * d ≤ 50 * (d + 1); omega) (by rw [RM]; show 0 + mc ≤ mc ∧ 0 + ms ≤ ms; omega) dL_done_190 (fun v h1 q => ?_) (fun E1 h1 q => g_out X Nt E (by omega) (by omega) q)
  obtain ⟨x, rfl⟩ := hQ v h1 q
  refine GJ.seq (st' := [.int x]) rfl ?_
  refine g_ireturn X E rfl dL_done_193 (by omega) (by omega) ?_
  exact q
set_option maxHeartbeats 4000000 in
set_option maxRecDepth 100000 in
theorem c_L_done_12 (G : gG Z) {a0 d mc ms : Nat} {fs : List Value} (hb : h a0 = some (.inr (8, fs))) {a1 a2 a3 a4 a5 : Int32} {Q : Option Value → gH → Prop} {QX : String → gH → Prop} (hd : 1 ≤ d) (hQ : gNum Q) (hM : gMet Z yX6_strike cX6_strike 2 ((Option.some FieldType.boolean)) d mc ms [.ref a0, .int a1] h Q QX) : gMet Z yL_done cL_done 7 ((Option.some FieldType.int)) (d + 1) mc ms [.ref a0, .int 12, .int a1, .int a2, .int a3, .int a4, .int a5] h (qTold Q) QX := by
  refine g_enter (lv := [(0, .ref a0), (1, .int 12), (2, .int a1), (3, .int a2), (4, .int a3), (5, .int a4), (6, .int a5)]) G.2 (by decide +kernel) (Nat.le_of_ble_eq_true rfl) rfl (fun Γ X Nt E RM => ?_)
  refine g_iload_n X dL_done_0 rfl ?_
  refine g_tableIn 194 X dL_done_1 (by decide) (by decide) rfl (by decide) ?_
  refine g_aload_n X dL_done_194 rfl ?_
  refine g_iload_n X dL_done_195 rfl ?_
  refine g_callV X lm_L_58 hM cl_X6 hb rfl rfl (Nat.le_of_ble_eq_true rfl) (by rw [RM]; show d + 1 ≤ d + 1 ∧ 8 + (2 + 11) + 50 * d ≤ 50 * (d + 1); omega) (by rw [RM]; show 0 + mc ≤ mc ∧ 0 + ms ≤ ms; omega) dL_done_196 (fun v h1 q => ?_) (fun E1 h1 q => g_out X Nt E (by omega) (by omega) q)
  obtain ⟨x, rfl⟩ := hQ v h1 q
  refine GJ.seq (st' := [.int x]) rfl ?_
  refine g_callS X lm_L_62 (g_told G) rfl rfl (Nat.le_of_ble_eq_true rfl) (by rw [RM]; show 1 + 1 ≤ d + 1 ∧ 8 + (1 + 11) + 50 * 1 ≤ 50 * (d + 1); omega) (by rw [RM]; show 0 + mc + 0 ≤ mc ∧ 0 + ms + 0 ≤ ms; omega) dL_done_199 (fun v h2 q2 => ?_) (fun _ _ q2 => q2.elim)
  obtain ⟨y, rfl, ey, rfl⟩ := q2
  refine GJ.seq (st' := [.int y]) rfl ?_
  refine g_ireturn X E rfl dL_done_202 (by omega) (by omega) ?_
  exact ⟨x, q, by rw [ey]⟩
set_option maxHeartbeats 4000000 in
set_option maxRecDepth 100000 in
theorem c_L_done_13 (G : gG Z) {a0 d mc ms : Nat} {fs : List Value} (hb : h a0 = some (.inr (8, fs))) {a1 a2 a3 a4 a5 : Int32} {Q : Option Value → gH → Prop} {QX : String → gH → Prop} (hQ : gNum Q) (hM : gMet Z yX6_dispatch cX6_dispatch 4 ((Option.some FieldType.int)) d mc ms [.ref a0, .int a1] h Q QX) : gMet Z yL_done cL_done 7 ((Option.some FieldType.int)) (d + 1) mc ms [.ref a0, .int 13, .int a1, .int a2, .int a3, .int a4, .int a5] h (Q) QX := by
  refine g_enter (lv := [(0, .ref a0), (1, .int 13), (2, .int a1), (3, .int a2), (4, .int a3), (5, .int a4), (6, .int a5)]) G.2 (by decide +kernel) (Nat.le_of_ble_eq_true rfl) rfl (fun Γ X Nt E RM => ?_)
  refine g_iload_n X dL_done_0 rfl ?_
  refine g_tableIn 203 X dL_done_1 (by decide) (by decide) rfl (by decide) ?_
  refine g_aload_n X dL_done_203 rfl ?_
  refine g_iload_n X dL_done_204 rfl ?_
  refine g_callV X lm_L_66 hM cl_X6 hb rfl rfl (Nat.le_of_ble_eq_true rfl) (by rw [RM]; show d + 1 ≤ d + 1 ∧ 8 + (4 + 11) + 50 * d ≤ 50 * (d + 1); omega) (by rw [RM]; show 0 + mc ≤ mc ∧ 0 + ms ≤ ms; omega) dL_done_205 (fun v h1 q => ?_) (fun E1 h1 q => g_out X Nt E (by omega) (by omega) q)
  obtain ⟨x, rfl⟩ := hQ v h1 q
  refine GJ.seq (st' := [.int x]) rfl ?_
  refine g_ireturn X E rfl dL_done_208 (by omega) (by omega) ?_
  exact q
set_option maxHeartbeats 4000000 in
set_option maxRecDepth 100000 in
theorem c_L_done_14 (G : gG Z) {a0 d mc ms : Nat} {fs : List Value} (hb : h a0 = some (.inr (8, fs))) {a1 a2 a3 a4 a5 : Int32} {Q : Option Value → gH → Prop} {QX : String → gH → Prop} (hQ : gNum Q) (hM : gMet Z yX6_push cX6_push 5 ((Option.some FieldType.int)) d mc ms [.ref a0, .int a1, .int a2] h Q QX) : gMet Z yL_done cL_done 7 ((Option.some FieldType.int)) (d + 1) mc ms [.ref a0, .int 14, .int a1, .int a2, .int a3, .int a4, .int a5] h (Q) QX := by
  refine g_enter (lv := [(0, .ref a0), (1, .int 14), (2, .int a1), (3, .int a2), (4, .int a3), (5, .int a4), (6, .int a5)]) G.2 (by decide +kernel) (Nat.le_of_ble_eq_true rfl) rfl (fun Γ X Nt E RM => ?_)
  refine g_iload_n X dL_done_0 rfl ?_
  refine g_tableIn 209 X dL_done_1 (by decide) (by decide) rfl (by decide) ?_
  refine g_aload_n X dL_done_209 rfl ?_
  refine g_iload_n X dL_done_210 rfl ?_
  refine g_iload_n X dL_done_211 rfl ?_
  refine g_callV X lm_L_69 hM cl_X6 hb rfl rfl (Nat.le_of_ble_eq_true rfl) (by rw [RM]; show d + 1 ≤ d + 1 ∧ 8 + (5 + 11) + 50 * d ≤ 50 * (d + 1); omega) (by rw [RM]; show 0 + mc ≤ mc ∧ 0 + ms ≤ ms; omega) dL_done_212 (fun v h1 q => ?_) (fun E1 h1 q => g_out X Nt E (by omega) (by omega) q)
  obtain ⟨x, rfl⟩ := hQ v h1 q
  refine GJ.seq (st' := [.int x]) rfl ?_
  refine g_ireturn X E rfl dL_done_215 (by omega) (by omega) ?_
  exact q
set_option maxHeartbeats 4000000 in
set_option maxRecDepth 100000 in
theorem c_L_done_15 (G : gG Z) {a0 d mc ms : Nat} {fs : List Value} (hb : h a0 = some (.inr (8, fs))) {a1 a2 a3 a4 a5 : Int32} {Q : Option Value → gH → Prop} {QX : String → gH → Prop} (hQ : gNum Q) (hM : gMet Z yX6_tick cX6_tick 7 ((Option.some FieldType.int)) d mc ms [.ref a0, .int a1] h Q QX) : gMet Z yL_done cL_done 7 ((Option.some FieldType.int)) (d + 1) mc ms [.ref a0, .int 15, .int a1, .int a2, .int a3, .int a4, .int a5] h (Q) QX := by
  refine g_enter (lv := [(0, .ref a0), (1, .int 15), (2, .int a1), (3, .int a2), (4, .int a3), (5, .int a4), (6, .int a5)]) G.2 (by decide +kernel) (Nat.le_of_ble_eq_true rfl) rfl (fun Γ X Nt E RM => ?_)
  refine g_iload_n X dL_done_0 rfl ?_
  refine g_tableIn 216 X dL_done_1 (by decide) (by decide) rfl (by decide) ?_
  refine g_aload_n X dL_done_216 rfl ?_
  refine g_iload_n X dL_done_217 rfl ?_
  refine g_callV X lm_L_72 hM cl_X6 hb rfl rfl (Nat.le_of_ble_eq_true rfl) (by rw [RM]; show d + 1 ≤ d + 1 ∧ 8 + (7 + 11) + 50 * d ≤ 50 * (d + 1); omega) (by rw [RM]; show 0 + mc ≤ mc ∧ 0 + ms ≤ ms; omega) dL_done_218 (fun v h1 q => ?_) (fun E1 h1 q => g_out X Nt E (by omega) (by omega) q)
  obtain ⟨x, rfl⟩ := hQ v h1 q
  refine GJ.seq (st' := [.int x]) rfl ?_
  refine g_ireturn X E rfl dL_done_221 (by omega) (by omega) ?_
  exact q
set_option maxHeartbeats 4000000 in
set_option maxRecDepth 100000 in
theorem c_L_done_16 (G : gG Z) {a0 d mc ms : Nat} {fs : List Value} (hb : h a0 = some (.inr (8, fs))) {a1 a2 a3 a4 a5 : Int32} {Q : Option Value → gH → Prop} {QX : String → gH → Prop} (hQ : gNum Q) (hM : gMet Z yX6_enter cX6_enter 4 ((Option.some FieldType.int)) d mc ms [.ref a0, .int a1, .int a2, .int a3] h Q QX) : gMet Z yL_done cL_done 7 ((Option.some FieldType.int)) (d + 1) mc ms [.ref a0, .int 16, .int a1, .int a2, .int a3, .int a4, .int a5] h (Q) QX := by
  refine g_enter (lv := [(0, .ref a0), (1, .int 16), (2, .int a1), (3, .int a2), (4, .int a3), (5, .int a4), (6, .int a5)]) G.2 (by decide +kernel) (Nat.le_of_ble_eq_true rfl) rfl (fun Γ X Nt E RM => ?_)
  refine g_iload_n X dL_done_0 rfl ?_
  refine g_tableIn 222 X dL_done_1 (by decide) (by decide) rfl (by decide) ?_
  refine g_aload_n X dL_done_222 rfl ?_
  refine g_iload_n X dL_done_223 rfl ?_
  refine g_iload_n X dL_done_224 rfl ?_
  refine g_iload X dL_done_225 rfl ?_
  refine g_callV X lm_L_75 hM cl_X6 hb rfl rfl (Nat.le_of_ble_eq_true rfl) (by rw [RM]; show d + 1 ≤ d + 1 ∧ 8 + (4 + 11) + 50 * d ≤ 50 * (d + 1); omega) (by rw [RM]; show 0 + mc ≤ mc ∧ 0 + ms ≤ ms; omega) dL_done_227 (fun v h1 q => ?_) (fun E1 h1 q => g_out X Nt E (by omega) (by omega) q)
  obtain ⟨x, rfl⟩ := hQ v h1 q
  refine GJ.seq (st' := [.int x]) rfl ?_
  refine g_ireturn X E rfl dL_done_230 (by omega) (by omega) ?_
  exact q
set_option maxHeartbeats 4000000 in
set_option maxRecDepth 100000 in
theorem c_L_done_17 (G : gG Z) {a0 d mc ms : Nat} {fs : List Value} (hb : h a0 = some (.inr (8, fs))) {a1 a2 a3 a4 a5 : Int32} {Q : Option Value → gH → Prop} {QX : String → gH → Prop} (hQ : gNum Q) (hM : gMet Z yX6_leave cX6_leave 3 ((Option.some FieldType.int)) d mc ms [.ref a0, .int a1] h Q QX) : gMet Z yL_done cL_done 7 ((Option.some FieldType.int)) (d + 1) mc ms [.ref a0, .int 17, .int a1, .int a2, .int a3, .int a4, .int a5] h (Q) QX := by
  refine g_enter (lv := [(0, .ref a0), (1, .int 17), (2, .int a1), (3, .int a2), (4, .int a3), (5, .int a4), (6, .int a5)]) G.2 (by decide +kernel) (Nat.le_of_ble_eq_true rfl) rfl (fun Γ X Nt E RM => ?_)
  refine g_iload_n X dL_done_0 rfl ?_
  refine g_tableIn 231 X dL_done_1 (by decide) (by decide) rfl (by decide) ?_
  refine g_aload_n X dL_done_231 rfl ?_
  refine g_iload_n X dL_done_232 rfl ?_
  refine g_callV X lm_L_78 hM cl_X6 hb rfl rfl (Nat.le_of_ble_eq_true rfl) (by rw [RM]; show d + 1 ≤ d + 1 ∧ 8 + (3 + 11) + 50 * d ≤ 50 * (d + 1); omega) (by rw [RM]; show 0 + mc ≤ mc ∧ 0 + ms ≤ ms; omega) dL_done_233 (fun v h1 q => ?_) (fun E1 h1 q => g_out X Nt E (by omega) (by omega) q)
  obtain ⟨x, rfl⟩ := hQ v h1 q
  refine GJ.seq (st' := [.int x]) rfl ?_
  refine g_ireturn X E rfl dL_done_236 (by omega) (by omega) ?_
  exact q
set_option maxHeartbeats 4000000 in
set_option maxRecDepth 100000 in
theorem c_L_done_18 (G : gG Z) {a0 d mc ms : Nat} {fs : List Value} (hb : h a0 = some (.inr (8, fs))) {a1 a2 a3 a4 a5 : Int32} {Q : Option Value → gH → Prop} {QX : String → gH → Prop} (hc_a3 : (a3.toUInt32 % 65536).toInt32 = a3) (hQ : gNum Q) (hM : gMet Z yX6_queue cX6_queue 8 ((Option.some FieldType.int)) d mc ms [.ref a0, .int a1, .int a2, .int a3] h Q QX) : gMet Z yL_done cL_done 7 ((Option.some FieldType.int)) (d + 1) mc ms [.ref a0, .int 18, .int a1, .int a2, .int a3, .int a4, .int a5] h (Q) QX := by
  refine g_enter (lv := [(0, .ref a0), (1, .int 18), (2, .int a1), (3, .int a2), (4, .int a3), (5, .int a4), (6, .int a5)]) G.2 (by decide +kernel) (Nat.le_of_ble_eq_true rfl) rfl (fun Γ X Nt E RM => ?_)
  refine g_iload_n X dL_done_0 rfl ?_
  refine g_tableIn 237 X dL_done_1 (by decide) (by decide) rfl (by decide) ?_
  refine g_aload_n X dL_done_237 rfl ?_
  refine g_iload_n X dL_done_238 rfl ?_
  refine g_iload_n X dL_done_239 rfl ?_
  refine g_iload X dL_done_240 rfl ?_
  refine g_i2c X dL_done_242 (fun x242 e242 => ?_)
  rw [hc_a3] at e242
  subst e242
  refine g_callV X lm_L_81 hM cl_X6 hb rfl rfl (Nat.le_of_ble_eq_true rfl) (by rw [RM]; show d + 1 ≤ d + 1 ∧ 8 + (8 + 11) + 50 * d ≤ 50 * (d + 1); omega) (by rw [RM]; show 0 + mc ≤ mc ∧ 0 + ms ≤ ms; omega) dL_done_243 (fun v h1 q => ?_) (fun E1 h1 q => g_out X Nt E (by omega) (by omega) q)
  obtain ⟨x, rfl⟩ := hQ v h1 q
  refine GJ.seq (st' := [.int x]) rfl ?_
  refine g_ireturn X E rfl dL_done_246 (by omega) (by omega) ?_
  exact q
set_option maxHeartbeats 4000000 in
set_option maxRecDepth 100000 in
theorem c_L_done_19 (G : gG Z) {a0 d mc ms : Nat} {fs : List Value} (hb : h a0 = some (.inr (8, fs))) {a1 a2 a3 a4 a5 : Int32} {Q : Option Value → gH → Prop} {QX : String → gH → Prop} (hQ : gNum Q) (hM : gMet Z yX6_quit cX6_quit 4 ((Option.some FieldType.int)) d mc ms [.ref a0, .int a1] h Q QX) : gMet Z yL_done cL_done 7 ((Option.some FieldType.int)) (d + 1) mc ms [.ref a0, .int 19, .int a1, .int a2, .int a3, .int a4, .int a5] h (Q) QX := by
  refine g_enter (lv := [(0, .ref a0), (1, .int 19), (2, .int a1), (3, .int a2), (4, .int a3), (5, .int a4), (6, .int a5)]) G.2 (by decide +kernel) (Nat.le_of_ble_eq_true rfl) rfl (fun Γ X Nt E RM => ?_)
  refine g_iload_n X dL_done_0 rfl ?_
  refine g_tableIn 247 X dL_done_1 (by decide) (by decide) rfl (by decide) ?_
  refine g_aload_n X dL_done_247 rfl ?_
  refine g_iload_n X dL_done_248 rfl ?_
  refine g_callV X lm_L_85 hM cl_X6 hb rfl rfl (Nat.le_of_ble_eq_true rfl) (by rw [RM]; show d + 1 ≤ d + 1 ∧ 8 + (4 + 11) + 50 * d ≤ 50 * (d + 1); omega) (by rw [RM]; show 0 + mc ≤ mc ∧ 0 + ms ≤ ms; omega) dL_done_249 (fun v h1 q => ?_) (fun E1 h1 q => g_out X Nt E (by omega) (by omega) q)
  obtain ⟨x, rfl⟩ := hQ v h1 q
  refine GJ.seq (st' := [.int x]) rfl ?_
  refine g_ireturn X E rfl dL_done_252 (by omega) (by omega) ?_
  exact q
set_option maxHeartbeats 4000000 in
set_option maxRecDepth 100000 in
theorem c_L_done_20 (G : gG Z) {a0 d mc ms : Nat} {fs : List Value} (hb : h a0 = some (.inr (8, fs))) {a1 a2 a3 a4 a5 : Int32} {Q : Option Value → gH → Prop} {QX : String → gH → Prop} (hQ : gNum Q) (hM : gMet Z yX6_takeReturn cX6_takeReturn 5 ((Option.some FieldType.int)) d mc ms [.ref a0, .int a1, .int a2] h Q QX) : gMet Z yL_done cL_done 7 ((Option.some FieldType.int)) (d + 1) mc ms [.ref a0, .int 20, .int a1, .int a2, .int a3, .int a4, .int a5] h (Q) QX := by
  refine g_enter (lv := [(0, .ref a0), (1, .int 20), (2, .int a1), (3, .int a2), (4, .int a3), (5, .int a4), (6, .int a5)]) G.2 (by decide +kernel) (Nat.le_of_ble_eq_true rfl) rfl (fun Γ X Nt E RM => ?_)
  refine g_iload_n X dL_done_0 rfl ?_
  refine g_tableIn 253 X dL_done_1 (by decide) (by decide) rfl (by decide) ?_
  refine g_aload_n X dL_done_253 rfl ?_
  refine g_iload_n X dL_done_254 rfl ?_
  refine g_iload_n X dL_done_255 rfl ?_
  refine g_callV X lm_L_88 hM cl_X6 hb rfl rfl (Nat.le_of_ble_eq_true rfl) (by rw [RM]; show d + 1 ≤ d + 1 ∧ 8 + (5 + 11) + 50 * d ≤ 50 * (d + 1); omega) (by rw [RM]; show 0 + mc ≤ mc ∧ 0 + ms ≤ ms; omega) dL_done_256 (fun v h1 q => ?_) (fun E1 h1 q => g_out X Nt E (by omega) (by omega) q)
  obtain ⟨x, rfl⟩ := hQ v h1 q
  refine GJ.seq (st' := [.int x]) rfl ?_
  refine g_ireturn X E rfl dL_done_259 (by omega) (by omega) ?_
  exact q
set_option maxHeartbeats 4000000 in
set_option maxRecDepth 100000 in
theorem c_L_done_21 (G : gG Z) {a0 d mc ms : Nat} {fs : List Value} (hb : h a0 = some (.inr (8, fs))) {a1 a2 a3 a4 a5 : Int32} {Q : Option Value → gH → Prop} {QX : String → gH → Prop} (hQ : gNum Q) (hM : gMet Z yX6_eat cX6_eat 3 ((Option.some FieldType.int)) d mc ms [.ref a0, .int a1] h Q QX) : gMet Z yL_done cL_done 7 ((Option.some FieldType.int)) (d + 1) mc ms [.ref a0, .int 21, .int a1, .int a2, .int a3, .int a4, .int a5] h (Q) QX := by
  refine g_enter (lv := [(0, .ref a0), (1, .int 21), (2, .int a1), (3, .int a2), (4, .int a3), (5, .int a4), (6, .int a5)]) G.2 (by decide +kernel) (Nat.le_of_ble_eq_true rfl) rfl (fun Γ X Nt E RM => ?_)
  refine g_iload_n X dL_done_0 rfl ?_
  refine g_tableOut 260 X dL_done_1 (by decide) (by decide) ?_
  refine g_aload_n X dL_done_260 rfl ?_
  refine g_iload_n X dL_done_261 rfl ?_
  refine g_callV X lm_L_91 hM cl_X6 hb rfl rfl (Nat.le_of_ble_eq_true rfl) (by rw [RM]; show d + 1 ≤ d + 1 ∧ 8 + (3 + 11) + 50 * d ≤ 50 * (d + 1); omega) (by rw [RM]; show 0 + mc ≤ mc ∧ 0 + ms ≤ ms; omega) dL_done_262 (fun v h1 q => ?_) (fun E1 h1 q => g_out X Nt E (by omega) (by omega) q)
  obtain ⟨x, rfl⟩ := hQ v h1 q
  refine GJ.seq (st' := [.int x]) rfl ?_
  refine g_ireturn X E rfl dL_done_265 (by omega) (by omega) ?_
  exact q
set_option maxHeartbeats 4000000 in
set_option maxRecDepth 100000 in
theorem c_L_asked_30 (G : gG Z) {a0 d mc ms : Nat} {fs : List Value} (hb : h a0 = some (.inr (8, fs))) {a1 a2 a3 : Int32} {Q : Option Value → gH → Prop} {QX : String → gH → Prop} (hQ : gNum Q) (hM : gMet Z yX6_keeps cX6_keeps 2 ((Option.some FieldType.char)) d mc ms [.ref a0, .int a1] h Q QX) : gMet Z yL_asked cL_asked 5 ((Option.some FieldType.int)) (d + 1) mc ms [.ref a0, .int 30, .int a1, .int a2, .int a3] h (Q) QX := by
  refine g_enter (lv := [(0, .ref a0), (1, .int 30), (2, .int a1), (3, .int a2), (4, .int a3)]) G.2 (by decide +kernel) (Nat.le_of_ble_eq_true rfl) rfl (fun Γ X Nt E RM => ?_)
  refine g_iload_n X dL_asked_0 rfl ?_
  refine g_tableIn 68 X dL_asked_1 (by decide) (by decide) rfl (by decide) ?_
  refine g_aload_n X dL_asked_68 rfl ?_
  refine g_iload_n X dL_asked_69 rfl ?_
  refine g_callV X lm_L_94 hM cl_X6 hb rfl rfl (Nat.le_of_ble_eq_true rfl) (by rw [RM]; show d + 1 ≤ d + 1 ∧ 8 + (2 + 11) + 50 * d ≤ 50 * (d + 1); omega) (by rw [RM]; show 0 + mc ≤ mc ∧ 0 + ms ≤ ms; omega) dL_asked_70 (fun v h1 q => ?_) (fun E1 h1 q => g_out X Nt E (by omega) (by omega) q)
  obtain ⟨x, rfl⟩ := hQ v h1 q
  refine GJ.seq (st' := [.int x]) rfl ?_
  refine g_ireturn X E rfl dL_asked_73 (by omega) (by omega) ?_
  exact q
set_option maxHeartbeats 4000000 in
set_option maxRecDepth 100000 in
theorem c_L_asked_31 (G : gG Z) {a0 d mc ms : Nat} {fs : List Value} (hb : h a0 = some (.inr (8, fs))) {a1 a2 a3 : Int32} {Q : Option Value → gH → Prop} {QX : String → gH → Prop} (hQ : gNum Q) (hM : gMet Z yX6_force cX6_force 4 ((Option.some FieldType.int)) d mc ms [.ref a0, .int a1, .int a2] h Q QX) : gMet Z yL_asked cL_asked 5 ((Option.some FieldType.int)) (d + 1) mc ms [.ref a0, .int 31, .int a1, .int a2, .int a3] h (Q) QX := by
  refine g_enter (lv := [(0, .ref a0), (1, .int 31), (2, .int a1), (3, .int a2), (4, .int a3)]) G.2 (by decide +kernel) (Nat.le_of_ble_eq_true rfl) rfl (fun Γ X Nt E RM => ?_)
  refine g_iload_n X dL_asked_0 rfl ?_
  refine g_tableIn 74 X dL_asked_1 (by decide) (by decide) rfl (by decide) ?_
  refine g_aload_n X dL_asked_74 rfl ?_
  refine g_iload_n X dL_asked_75 rfl ?_
  refine g_iload_n X dL_asked_76 rfl ?_
  refine g_callV X lm_L_98 hM cl_X6 hb rfl rfl (Nat.le_of_ble_eq_true rfl) (by rw [RM]; show d + 1 ≤ d + 1 ∧ 8 + (4 + 11) + 50 * d ≤ 50 * (d + 1); omega) (by rw [RM]; show 0 + mc ≤ mc ∧ 0 + ms ≤ ms; omega) dL_asked_77 (fun v h1 q => ?_) (fun E1 h1 q => g_out X Nt E (by omega) (by omega) q)
  obtain ⟨x, rfl⟩ := hQ v h1 q
  refine GJ.seq (st' := [.int x]) rfl ?_
  refine g_ireturn X E rfl dL_asked_80 (by omega) (by omega) ?_
  exact q
set_option maxHeartbeats 4000000 in
set_option maxRecDepth 100000 in
theorem c_L_asked_32 (G : gG Z) {a0 d mc ms : Nat} {fs : List Value} (hb : h a0 = some (.inr (8, fs))) {a1 a2 a3 : Int32} {Q : Option Value → gH → Prop} {QX : String → gH → Prop} (hd : 1 ≤ d) (hQ : gNum Q) (hM : gMet Z yX6_isHeld cX6_isHeld 4 ((Option.some FieldType.boolean)) d mc ms [.ref a0, .int a1, .int a2] h Q QX) : gMet Z yL_asked cL_asked 5 ((Option.some FieldType.int)) (d + 1) mc ms [.ref a0, .int 32, .int a1, .int a2, .int a3] h (qTold Q) QX := by
  refine g_enter (lv := [(0, .ref a0), (1, .int 32), (2, .int a1), (3, .int a2), (4, .int a3)]) G.2 (by decide +kernel) (Nat.le_of_ble_eq_true rfl) rfl (fun Γ X Nt E RM => ?_)
  refine g_iload_n X dL_asked_0 rfl ?_
  refine g_tableIn 81 X dL_asked_1 (by decide) (by decide) rfl (by decide) ?_
  refine g_aload_n X dL_asked_81 rfl ?_
  refine g_iload_n X dL_asked_82 rfl ?_
  refine g_iload_n X dL_asked_83 rfl ?_
  refine g_callV X lm_L_101 hM cl_X6 hb rfl rfl (Nat.le_of_ble_eq_true rfl) (by rw [RM]; show d + 1 ≤ d + 1 ∧ 8 + (4 + 11) + 50 * d ≤ 50 * (d + 1); omega) (by rw [RM]; show 0 + mc ≤ mc ∧ 0 + ms ≤ ms; omega) dL_asked_84 (fun v h1 q => ?_) (fun E1 h1 q => g_out X Nt E (by omega) (by omega) q)
  obtain ⟨x, rfl⟩ := hQ v h1 q
  refine GJ.seq (st' := [.int x]) rfl ?_
  refine g_callS X lm_L_62 (g_told G) rfl rfl (Nat.le_of_ble_eq_true rfl) (by rw [RM]; show 1 + 1 ≤ d + 1 ∧ 8 + (1 + 11) + 50 * 1 ≤ 50 * (d + 1); omega) (by rw [RM]; show 0 + mc + 0 ≤ mc ∧ 0 + ms + 0 ≤ ms; omega) dL_asked_87 (fun v h2 q2 => ?_) (fun _ _ q2 => q2.elim)
  obtain ⟨y, rfl, ey, rfl⟩ := q2
  refine GJ.seq (st' := [.int y]) rfl ?_
  refine g_ireturn X E rfl dL_asked_90 (by omega) (by omega) ?_
  exact ⟨x, q, by rw [ey]⟩
set_option maxHeartbeats 4000000 in
set_option maxRecDepth 100000 in
theorem c_L_asked_33 (G : gG Z) {a0 d mc ms : Nat} {fs : List Value} (hb : h a0 = some (.inr (8, fs))) {a1 a2 a3 : Int32} {Q : Option Value → gH → Prop} {QX : String → gH → Prop} (hd : 1 ≤ d) (hQ : gNum Q) (hM : gMet Z yX6_sees cX6_sees 5 ((Option.some FieldType.boolean)) d mc ms [.ref a0, .int a1, .int a2, .int a3] h Q QX) : gMet Z yL_asked cL_asked 5 ((Option.some FieldType.int)) (d + 1) mc ms [.ref a0, .int 33, .int a1, .int a2, .int a3] h (qTold Q) QX := by
  refine g_enter (lv := [(0, .ref a0), (1, .int 33), (2, .int a1), (3, .int a2), (4, .int a3)]) G.2 (by decide +kernel) (Nat.le_of_ble_eq_true rfl) rfl (fun Γ X Nt E RM => ?_)
  refine g_iload_n X dL_asked_0 rfl ?_
  refine g_tableIn 91 X dL_asked_1 (by decide) (by decide) rfl (by decide) ?_
  refine g_aload_n X dL_asked_91 rfl ?_
  refine g_iload_n X dL_asked_92 rfl ?_
  refine g_iload_n X dL_asked_93 rfl ?_
  refine g_iload X dL_asked_94 rfl ?_
  refine g_callV X lm_L_105 hM cl_X6 hb rfl rfl (Nat.le_of_ble_eq_true rfl) (by rw [RM]; show d + 1 ≤ d + 1 ∧ 8 + (5 + 11) + 50 * d ≤ 50 * (d + 1); omega) (by rw [RM]; show 0 + mc ≤ mc ∧ 0 + ms ≤ ms; omega) dL_asked_96 (fun v h1 q => ?_) (fun E1 h1 q => g_out X Nt E (by omega) (by omega) q)
  obtain ⟨x, rfl⟩ := hQ v h1 q
  refine GJ.seq (st' := [.int x]) rfl ?_
  refine g_callS X lm_L_62 (g_told G) rfl rfl (Nat.le_of_ble_eq_true rfl) (by rw [RM]; show 1 + 1 ≤ d + 1 ∧ 8 + (1 + 11) + 50 * 1 ≤ 50 * (d + 1); omega) (by rw [RM]; show 0 + mc + 0 ≤ mc ∧ 0 + ms + 0 ≤ ms; omega) dL_asked_99 (fun v h2 q2 => ?_) (fun _ _ q2 => q2.elim)
  obtain ⟨y, rfl, ey, rfl⟩ := q2
  refine GJ.seq (st' := [.int y]) rfl ?_
  refine g_ireturn X E rfl dL_asked_102 (by omega) (by omega) ?_
  exact ⟨x, q, by rw [ey]⟩
set_option maxHeartbeats 4000000 in
set_option maxRecDepth 100000 in
theorem c_L_asked_34 (G : gG Z) {a0 d mc ms : Nat} {fs : List Value} (hb : h a0 = some (.inr (8, fs))) {a1 a2 a3 : Int32} {Q : Option Value → gH → Prop} {QX : String → gH → Prop} (hd : 1 ≤ d) (hQ : gNum Q) (hM : gMet Z yX6_hasTripped cX6_hasTripped 2 ((Option.some FieldType.boolean)) d mc ms [.ref a0, .int a1] h Q QX) : gMet Z yL_asked cL_asked 5 ((Option.some FieldType.int)) (d + 1) mc ms [.ref a0, .int 34, .int a1, .int a2, .int a3] h (qTold Q) QX := by
  refine g_enter (lv := [(0, .ref a0), (1, .int 34), (2, .int a1), (3, .int a2), (4, .int a3)]) G.2 (by decide +kernel) (Nat.le_of_ble_eq_true rfl) rfl (fun Γ X Nt E RM => ?_)
  refine g_iload_n X dL_asked_0 rfl ?_
  refine g_tableIn 103 X dL_asked_1 (by decide) (by decide) rfl (by decide) ?_
  refine g_aload_n X dL_asked_103 rfl ?_
  refine g_iload_n X dL_asked_104 rfl ?_
  refine g_callV X lm_L_109 hM cl_X6 hb rfl rfl (Nat.le_of_ble_eq_true rfl) (by rw [RM]; show d + 1 ≤ d + 1 ∧ 8 + (2 + 11) + 50 * d ≤ 50 * (d + 1); omega) (by rw [RM]; show 0 + mc ≤ mc ∧ 0 + ms ≤ ms; omega) dL_asked_105 (fun v h1 q => ?_) (fun E1 h1 q => g_out X Nt E (by omega) (by omega) q)
  obtain ⟨x, rfl⟩ := hQ v h1 q
  refine GJ.seq (st' := [.int x]) rfl ?_
  refine g_callS X lm_L_62 (g_told G) rfl rfl (Nat.le_of_ble_eq_true rfl) (by rw [RM]; show 1 + 1 ≤ d + 1 ∧ 8 + (1 + 11) + 50 * 1 ≤ 50 * (d + 1); omega) (by rw [RM]; show 0 + mc + 0 ≤ mc ∧ 0 + ms + 0 ≤ ms; omega) dL_asked_108 (fun v h2 q2 => ?_) (fun _ _ q2 => q2.elim)
  obtain ⟨y, rfl, ey, rfl⟩ := q2
  refine GJ.seq (st' := [.int y]) rfl ?_
  refine g_ireturn X E rfl dL_asked_111 (by omega) (by omega) ?_
  exact ⟨x, q, by rw [ey]⟩
set_option maxHeartbeats 4000000 in
set_option maxRecDepth 100000 in
theorem c_L_asked_35 (G : gG Z) {a0 d mc ms : Nat} {fs : List Value} (hb : h a0 = some (.inr (8, fs))) {a1 a2 a3 : Int32} {Q : Option Value → gH → Prop} {QX : String → gH → Prop} (hQ : gNum Q) (hM : gMet Z yX6_blockOf cX6_blockOf 3 ((Option.some FieldType.int)) d mc ms [.ref a0, .int a1, .int a2] h Q QX) : gMet Z yL_asked cL_asked 5 ((Option.some FieldType.int)) (d + 1) mc ms [.ref a0, .int 35, .int a1, .int a2, .int a3] h (Q) QX := by
  refine g_enter (lv := [(0, .ref a0), (1, .int 35), (2, .int a1), (3, .int a2), (4, .int a3)]) G.2 (by decide +kernel) (Nat.le_of_ble_eq_true rfl) rfl (fun Γ X Nt E RM => ?_)
  refine g_iload_n X dL_asked_0 rfl ?_
  refine g_tableIn 112 X dL_asked_1 (by decide) (by decide) rfl (by decide) ?_
  refine g_aload_n X dL_asked_112 rfl ?_
  refine g_iload_n X dL_asked_113 rfl ?_
  refine g_iload_n X dL_asked_114 rfl ?_
  refine g_callV X lm_L_112 hM cl_X6 hb rfl rfl (Nat.le_of_ble_eq_true rfl) (by rw [RM]; show d + 1 ≤ d + 1 ∧ 8 + (3 + 11) + 50 * d ≤ 50 * (d + 1); omega) (by rw [RM]; show 0 + mc ≤ mc ∧ 0 + ms ≤ ms; omega) dL_asked_115 (fun v h1 q => ?_) (fun E1 h1 q => g_out X Nt E (by omega) (by omega) q)
  obtain ⟨x, rfl⟩ := hQ v h1 q
  refine GJ.seq (st' := [.int x]) rfl ?_
  refine g_ireturn X E rfl dL_asked_118 (by omega) (by omega) ?_
  exact q
set_option maxHeartbeats 4000000 in
set_option maxRecDepth 100000 in
theorem c_L_asked_36 (G : gG Z) {a0 d mc ms : Nat} {fs : List Value} (hb : h a0 = some (.inr (8, fs))) {a1 a2 a3 : Int32} {Q : Option Value → gH → Prop} {QX : String → gH → Prop} (hQ : gNum Q) (hM : gMet Z yX6_energy cX6_energy 3 ((Option.some FieldType.int)) d mc ms [.ref a0, .int a1, .int a2] h Q QX) : gMet Z yL_asked cL_asked 5 ((Option.some FieldType.int)) (d + 1) mc ms [.ref a0, .int 36, .int a1, .int a2, .int a3] h (Q) QX := by
  refine g_enter (lv := [(0, .ref a0), (1, .int 36), (2, .int a1), (3, .int a2), (4, .int a3)]) G.2 (by decide +kernel) (Nat.le_of_ble_eq_true rfl) rfl (fun Γ X Nt E RM => ?_)
  refine g_iload_n X dL_asked_0 rfl ?_
  refine g_tableIn 119 X dL_asked_1 (by decide) (by decide) rfl (by decide) ?_
  refine g_aload_n X dL_asked_119 rfl ?_
  refine g_iload_n X dL_asked_120 rfl ?_
  refine g_iload_n X dL_asked_121 rfl ?_
  refine g_callV X lm_L_115 hM cl_X6 hb rfl rfl (Nat.le_of_ble_eq_true rfl) (by rw [RM]; show d + 1 ≤ d + 1 ∧ 8 + (3 + 11) + 50 * d ≤ 50 * (d + 1); omega) (by rw [RM]; show 0 + mc ≤ mc ∧ 0 + ms ≤ ms; omega) dL_asked_122 (fun v h1 q => ?_) (fun E1 h1 q => g_out X Nt E (by omega) (by omega) q)
  obtain ⟨x, rfl⟩ := hQ v h1 q
  refine GJ.seq (st' := [.int x]) rfl ?_
  refine g_ireturn X E rfl dL_asked_125 (by omega) (by omega) ?_
  exact q
set_option maxHeartbeats 4000000 in
set_option maxRecDepth 100000 in
theorem c_L_asked_37 (G : gG Z) {a0 d mc ms : Nat} {fs : List Value} (hb : h a0 = some (.inr (8, fs))) {a1 a2 a3 : Int32} {Q : Option Value → gH → Prop} {QX : String → gH → Prop} (hQ : gNum Q) (hM : gMet Z yX6_stateOf cX6_stateOf 3 ((Option.some FieldType.char)) d mc ms [.ref a0, .int a1, .int a2] h Q QX) : gMet Z yL_asked cL_asked 5 ((Option.some FieldType.int)) (d + 1) mc ms [.ref a0, .int 37, .int a1, .int a2, .int a3] h (Q) QX := by
  refine g_enter (lv := [(0, .ref a0), (1, .int 37), (2, .int a1), (3, .int a2), (4, .int a3)]) G.2 (by decide +kernel) (Nat.le_of_ble_eq_true rfl) rfl (fun Γ X Nt E RM => ?_)
  refine g_iload_n X dL_asked_0 rfl ?_
  refine g_tableIn 126 X dL_asked_1 (by decide) (by decide) rfl (by decide) ?_
  refine g_aload_n X dL_asked_126 rfl ?_
  refine g_iload_n X dL_asked_127 rfl ?_
  refine g_iload_n X dL_asked_128 rfl ?_
  refine g_callV X lm_L_118 hM cl_X6 hb rfl rfl (Nat.le_of_ble_eq_true rfl) (by rw [RM]; show d + 1 ≤ d + 1 ∧ 8 + (3 + 11) + 50 * d ≤ 50 * (d + 1); omega) (by rw [RM]; show 0 + mc ≤ mc ∧ 0 + ms ≤ ms; omega) dL_asked_129 (fun v h1 q => ?_) (fun E1 h1 q => g_out X Nt E (by omega) (by omega) q)
  obtain ⟨x, rfl⟩ := hQ v h1 q
  refine GJ.seq (st' := [.int x]) rfl ?_
  refine g_ireturn X E rfl dL_asked_132 (by omega) (by omega) ?_
  exact q
set_option maxHeartbeats 4000000 in
set_option maxRecDepth 100000 in
theorem c_L_asked_38 (G : gG Z) {a0 d mc ms : Nat} {fs : List Value} (hb : h a0 = some (.inr (8, fs))) {a1 a2 a3 : Int32} {Q : Option Value → gH → Prop} {QX : String → gH → Prop} (hQ : gNum Q) (hM : gMet Z yX6_aboard cX6_aboard 3 ((Option.some FieldType.int)) d mc ms [.ref a0, .int a1, .int a2] h Q QX) : gMet Z yL_asked cL_asked 5 ((Option.some FieldType.int)) (d + 1) mc ms [.ref a0, .int 38, .int a1, .int a2, .int a3] h (Q) QX := by
  refine g_enter (lv := [(0, .ref a0), (1, .int 38), (2, .int a1), (3, .int a2), (4, .int a3)]) G.2 (by decide +kernel) (Nat.le_of_ble_eq_true rfl) rfl (fun Γ X Nt E RM => ?_)
  refine g_iload_n X dL_asked_0 rfl ?_
  refine g_tableIn 133 X dL_asked_1 (by decide) (by decide) rfl (by decide) ?_
  refine g_aload_n X dL_asked_133 rfl ?_
  refine g_iload_n X dL_asked_134 rfl ?_
  refine g_iload_n X dL_asked_135 rfl ?_
  refine g_callV X lm_L_122 hM cl_X6 hb rfl rfl (Nat.le_of_ble_eq_true rfl) (by rw [RM]; show d + 1 ≤ d + 1 ∧ 8 + (3 + 11) + 50 * d ≤ 50 * (d + 1); omega) (by rw [RM]; show 0 + mc ≤ mc ∧ 0 + ms ≤ ms; omega) dL_asked_136 (fun v h1 q => ?_) (fun E1 h1 q => g_out X Nt E (by omega) (by omega) q)
  obtain ⟨x, rfl⟩ := hQ v h1 q
  refine GJ.seq (st' := [.int x]) rfl ?_
  refine g_ireturn X E rfl dL_asked_139 (by omega) (by omega) ?_
  exact q
set_option maxHeartbeats 4000000 in
set_option maxRecDepth 100000 in
theorem c_L_asked_39 (G : gG Z) {a0 d mc ms : Nat} {fs : List Value} (hb : h a0 = some (.inr (8, fs))) {a1 a2 a3 : Int32} {Q : Option Value → gH → Prop} {QX : String → gH → Prop} (hc_a2 : (a2.toUInt32 % 65536).toInt32 = a2) (hQ : gNum Q) (hM : gMet Z yX6_waiting cX6_waiting 3 ((Option.some FieldType.int)) d mc ms [.ref a0, .int a1, .int a2] h Q QX) : gMet Z yL_asked cL_asked 5 ((Option.some FieldType.int)) (d + 1) mc ms [.ref a0, .int 39, .int a1, .int a2, .int a3] h (Q) QX := by
  refine g_enter (lv := [(0, .ref a0), (1, .int 39), (2, .int a1), (3, .int a2), (4, .int a3)]) G.2 (by decide +kernel) (Nat.le_of_ble_eq_true rfl) rfl (fun Γ X Nt E RM => ?_)
  refine g_iload_n X dL_asked_0 rfl ?_
  refine g_tableIn 140 X dL_asked_1 (by decide) (by decide) rfl (by decide) ?_
  refine g_aload_n X dL_asked_140 rfl ?_
  refine g_iload_n X dL_asked_141 rfl ?_
  refine g_iload_n X dL_asked_142 rfl ?_
  refine g_i2c X dL_asked_143 (fun x143 e143 => ?_)
  rw [hc_a2] at e143
  subst e143
  refine g_callV X lm_L_125 hM cl_X6 hb rfl rfl (Nat.le_of_ble_eq_true rfl) (by rw [RM]; show d + 1 ≤ d + 1 ∧ 8 + (3 + 11) + 50 * d ≤ 50 * (d + 1); omega) (by rw [RM]; show 0 + mc ≤ mc ∧ 0 + ms ≤ ms; omega) dL_asked_144 (fun v h1 q => ?_) (fun E1 h1 q => g_out X Nt E (by omega) (by omega) q)
  obtain ⟨x, rfl⟩ := hQ v h1 q
  refine GJ.seq (st' := [.int x]) rfl ?_
  refine g_ireturn X E rfl dL_asked_147 (by omega) (by omega) ?_
  exact q
set_option maxHeartbeats 4000000 in
set_option maxRecDepth 100000 in
theorem c_L_asked_40 (G : gG Z) {a0 d mc ms : Nat} {fs : List Value} (hb : h a0 = some (.inr (8, fs))) {a1 a2 a3 : Int32} {Q : Option Value → gH → Prop} {QX : String → gH → Prop} (hQ : gNum Q) (hM : gMet Z yX6_whereIs cX6_whereIs 2 ((Option.some FieldType.char)) d mc ms [.ref a0, .int a1] h Q QX) : gMet Z yL_asked cL_asked 5 ((Option.some FieldType.int)) (d + 1) mc ms [.ref a0, .int 40, .int a1, .int a2, .int a3] h (Q) QX := by
  refine g_enter (lv := [(0, .ref a0), (1, .int 40), (2, .int a1), (3, .int a2), (4, .int a3)]) G.2 (by decide +kernel) (Nat.le_of_ble_eq_true rfl) rfl (fun Γ X Nt E RM => ?_)
  refine g_iload_n X dL_asked_0 rfl ?_
  refine g_tableIn 148 X dL_asked_1 (by decide) (by decide) rfl (by decide) ?_
  refine g_aload_n X dL_asked_148 rfl ?_
  refine g_iload_n X dL_asked_149 rfl ?_
  refine g_callV X lm_L_129 hM cl_X6 hb rfl rfl (Nat.le_of_ble_eq_true rfl) (by rw [RM]; show d + 1 ≤ d + 1 ∧ 8 + (2 + 11) + 50 * d ≤ 50 * (d + 1); omega) (by rw [RM]; show 0 + mc ≤ mc ∧ 0 + ms ≤ ms; omega) dL_asked_150 (fun v h1 q => ?_) (fun E1 h1 q => g_out X Nt E (by omega) (by omega) q)
  obtain ⟨x, rfl⟩ := hQ v h1 q
  refine GJ.seq (st' := [.int x]) rfl ?_
  refine g_ireturn X E rfl dL_asked_153 (by omega) (by omega) ?_
  exact q
set_option maxHeartbeats 4000000 in
set_option maxRecDepth 100000 in
theorem c_L_asked_41 (G : gG Z) {a0 d mc ms : Nat} {fs : List Value} (hb : h a0 = some (.inr (8, fs))) {a1 a2 a3 : Int32} {Q : Option Value → gH → Prop} {QX : String → gH → Prop} (hc_a2 : (a2.toUInt32 % 65536).toInt32 = a2) (hQ : gNum Q) (hM : gMet Z yX6_get cX6_get 4 ((Option.some FieldType.int)) d mc ms [.ref a0, .int a1, .int a2] h Q QX) : gMet Z yL_asked cL_asked 5 ((Option.some FieldType.int)) (d + 1) mc ms [.ref a0, .int 41, .int a1, .int a2, .int a3] h (Q) QX := by
  refine g_enter (lv := [(0, .ref a0), (1, .int 41), (2, .int a1), (3, .int a2), (4, .int a3)]) G.2 (by decide +kernel) (Nat.le_of_ble_eq_true rfl) rfl (fun Γ X Nt E RM => ?_)
  refine g_iload_n X dL_asked_0 rfl ?_
  refine g_tableIn 154 X dL_asked_1 (by decide) (by decide) rfl (by decide) ?_
  refine g_aload_n X dL_asked_154 rfl ?_
  refine g_iload_n X dL_asked_155 rfl ?_
  refine g_iload_n X dL_asked_156 rfl ?_
  refine g_i2c X dL_asked_157 (fun x157 e157 => ?_)
  rw [hc_a2] at e157
  subst e157
  refine g_callV X lm_L_132 hM cl_X6 hb rfl rfl (Nat.le_of_ble_eq_true rfl) (by rw [RM]; show d + 1 ≤ d + 1 ∧ 8 + (4 + 11) + 50 * d ≤ 50 * (d + 1); omega) (by rw [RM]; show 0 + mc ≤ mc ∧ 0 + ms ≤ ms; omega) dL_asked_158 (fun v h1 q => ?_) (fun E1 h1 q => g_out X Nt E (by omega) (by omega) q)
  obtain ⟨x, rfl⟩ := hQ v h1 q
  refine GJ.seq (st' := [.int x]) rfl ?_
  refine g_ireturn X E rfl dL_asked_161 (by omega) (by omega) ?_
  exact q
set_option maxHeartbeats 4000000 in
set_option maxRecDepth 100000 in
theorem c_L_asked_42 (G : gG Z) {a0 d mc ms : Nat} {fs : List Value} (hb : h a0 = some (.inr (8, fs))) {a1 a2 a3 : Int32} {Q : Option Value → gH → Prop} {QX : String → gH → Prop} (hQ : gNum Q) (hM : gMet Z yX6_hungriest cX6_hungriest 5 ((Option.some FieldType.int)) d mc ms [.ref a0] h Q QX) : gMet Z yL_asked cL_asked 5 ((Option.some FieldType.int)) (d + 1) mc ms [.ref a0, .int 42, .int a1, .int a2, .int a3] h (Q) QX := by
  refine g_enter (lv := [(0, .ref a0), (1, .int 42), (2, .int a1), (3, .int a2), (4, .int a3)]) G.2 (by decide +kernel) (Nat.le_of_ble_eq_true rfl) rfl (fun Γ X Nt E RM => ?_)
  refine g_iload_n X dL_asked_0 rfl ?_
  refine g_tableIn 162 X dL_asked_1 (by decide) (by decide) rfl (by decide) ?_
  refine g_aload_n X dL_asked_162 rfl ?_
  refine g_callV X lm_L_135 hM cl_X6 hb rfl rfl (Nat.le_of_ble_eq_true rfl) (by rw [RM]; show d + 1 ≤ d + 1 ∧ 8 + (5 + 11) + 50 * d ≤ 50 * (d + 1); omega) (by rw [RM]; show 0 + mc ≤ mc ∧ 0 + ms ≤ ms; omega) dL_asked_163 (fun v h1 q => ?_) (fun E1 h1 q => g_out X Nt E (by omega) (by omega) q)
  obtain ⟨x, rfl⟩ := hQ v h1 q
  refine GJ.seq (st' := [.int x]) rfl ?_
  refine g_ireturn X E rfl dL_asked_166 (by omega) (by omega) ?_
  exact q
set_option maxHeartbeats 4000000 in
set_option maxRecDepth 100000 in
theorem c_L_asked_43 (G : gG Z) {a0 d mc ms : Nat} {fs : List Value} (hb : h a0 = some (.inr (8, fs))) {a1 a2 a3 : Int32} {Q : Option Value → gH → Prop} {QX : String → gH → Prop} (hQ : gNum Q) (hM : gMet Z yX6_cycles cX6_cycles 2 ((Option.some FieldType.int)) d mc ms [.ref a0, .int a1] h Q QX) : gMet Z yL_asked cL_asked 5 ((Option.some FieldType.int)) (d + 1) mc ms [.ref a0, .int 43, .int a1, .int a2, .int a3] h (Q) QX := by
  refine g_enter (lv := [(0, .ref a0), (1, .int 43), (2, .int a1), (3, .int a2), (4, .int a3)]) G.2 (by decide +kernel) (Nat.le_of_ble_eq_true rfl) rfl (fun Γ X Nt E RM => ?_)
  refine g_iload_n X dL_asked_0 rfl ?_
  refine g_tableOut 167 X dL_asked_1 (by decide) (by decide) ?_
  refine g_aload_n X dL_asked_167 rfl ?_
  refine g_iload_n X dL_asked_168 rfl ?_
  refine g_callV X lm_L_139 hM cl_X6 hb rfl rfl (Nat.le_of_ble_eq_true rfl) (by rw [RM]; show d + 1 ≤ d + 1 ∧ 8 + (2 + 11) + 50 * d ≤ 50 * (d + 1); omega) (by rw [RM]; show 0 + mc ≤ mc ∧ 0 + ms ≤ ms; omega) dL_asked_169 (fun v h1 q => ?_) (fun E1 h1 q => g_out X Nt E (by omega) (by omega) q)
  obtain ⟨x, rfl⟩ := hQ v h1 q
  refine GJ.seq (st' := [.int x]) rfl ?_
  refine g_ireturn X E rfl dL_asked_172 (by omega) (by omega) ?_
  exact q
end GLAW2
