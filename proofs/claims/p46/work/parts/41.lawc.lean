/-! the law's loop, a case each, over what it goes on with at 904 -/
/-- the room that the law needs at most (a walk makes less than 61000 cells and 320000 slots), whatever number above it a launch is given -/
theorem rm_C : 61000 ≤ room_1.cells := Nat.le_of_ble_eq_true rfl
theorem rm_S : 320000 ≤ room_1.slots := Nat.le_of_ble_eq_true rfl
section GLAWC
variable {Z : gEnv} {Γ : gCtx} {h : gH} {kk nn KB NB : Nat} {a t0 N g r i T : Nat} {f : Nat → Int32} {B O : Int64} {P : gP} {x7 x8 x9 x10 : Int32}
def lK (Z : gEnv) (Γ : gCtx) (a t0 : Nat) (B : Int64) (x7 : Int32) (KB NB T : Nat) : Prop := ∀ (kk nn : Nat) (P2 : gP) (h2 : gH) (O2 : Int64) (T2 : Nat), kk ≤ KB → nn ≤ NB → T2 ≤ T + 20 → LR Z a P2 h2 → LJ B O2 (nI T2) P2 → GJ Z Γ h2 kk nn 904 [(7, .int x7), (6, .int 1), (4, .long O2), (2, .long B), (1, .ref a), (0, .ref t0)] []
theorem gp_maxR {cc : ByteArray} {own : String} {nL : Nat} {ret : Option FieldType} {k n pc : Nat} {lv : List (Nat × Value)} {st : List Value} {idx : Nat} {x y : Int32} (X : gOK Z Γ cc own nL ret) (L : gLMax own idx) (h1 : 1 ≤ Γ.2.2.1.frames) (h2 : (st.map fun v => v.category).sum + 13 ≤ Γ.2.2.1.locals) (h3 : k ≤ Γ.2.2.1.cells) (h4 : n ≤ Γ.2.2.1.slots) (d : decode cc pc = .ok (.invokestatic idx, 3)) (kk : ∀ z : Int32, z = (if x < y then y else x) → GJ Z Γ h k n (pc + 3) lv (.int z :: st)) : GJ Z Γ h k n pc lv (.int y :: .int x :: st) := fun H locs ls hw hS hl =>
  va_mmax X.exec X.bytes (by rw [X.maxl]; exact (hl.1.trans X.nl).symm) X.ow (X.wd L.1) (X.wd L.2.1) (X.wd L.2.2.1) (X.wd L.2.2.2) h1 h2 h3 h4 d (kk _ rfl H locs ls hw hS hl)
theorem lsr_q {j : Nat} {x : Int32} (hj : j < 3) (e : x = [108, 115, 114].getD j (0 : Int32)) : ∃ q : Nat, x = 108 ∧ q = 0 ∨ x = 115 ∧ q = 1 ∨ x = 114 ∧ q = 2 := by
  rcases (show j = 0 ∨ j = 1 ∨ j = 2 by omega) with rfl | rfl | rfl
  · exact ⟨0, Or.inl ⟨e, rfl⟩⟩
  · exact ⟨1, Or.inr (Or.inl ⟨e, rfl⟩)⟩
  · exact ⟨2, Or.inr (Or.inr ⟨e, rfl⟩)⟩
theorem ttt_w {j : Nat} {x : Int32} (hj : j < 5) (e : x = [116, 116, 116, 97, 110].getD j (0 : Int32)) : x = 116 ∨ x = 97 ∨ x = 110 := by
  rcases (show j = 0 ∨ j = 1 ∨ j = 2 ∨ j = 3 ∨ j = 4 by omega) with rfl | rfl | rfl | rfl | rfl
  · exact Or.inl e
  · exact Or.inl e
  · exact Or.inl e
  · exact Or.inr (Or.inl e)
  · exact Or.inr (Or.inr e)
theorem lsr_c : ∀ j, j < 3 → (((([108, 115, 114] : List Int32).getD j 0) &&& 255).toUInt32 % 65536).toInt32 = ([108, 115, 114] : List Int32).getD j 0 ∧ narrow .char (.int (([108, 115, 114] : List Int32).getD j 0)) = .int (([108, 115, 114] : List Int32).getD j 0) := by
  intro j hj
  rcases (show j = 0 ∨ j = 1 ∨ j = 2 by omega) with rfl | rfl | rfl <;> exact ⟨by decide, rfl⟩
theorem ttt_c : ∀ j, j < 5 → (((([116, 116, 116, 97, 110] : List Int32).getD j 0) &&& 255).toUInt32 % 65536).toInt32 = ([116, 116, 116, 97, 110] : List Int32).getD j 0 ∧ narrow .char (.int (([116, 116, 116, 97, 110] : List Int32).getD j 0)) = .int (([116, 116, 116, 97, 110] : List Int32).getD j 0) := by
  intro j hj
  rcases (show j = 0 ∨ j = 1 ∨ j = 2 ∨ j = 3 ∨ j = 4 by omega) with rfl | rfl | rfl | rfl | rfl <;> exact ⟨by decide, rfl⟩
theorem i_m2004 : (-2004 : Int32) < 0 := by decide
theorem n_m2004 {m : Nat} (h : m < 2 ^ 31) : ¬ nI m = -2004 := fun e => nI_pos h (by rw [e]; decide)
theorem max_neg {x z : Int32} (e : z = if 0 < x then x else 0) (h : x = -2004) : z = 0 := by
  rw [e, h]
  decide
theorem max_pos {x z : Int32} {m : Nat} (e : z = if 0 < x then x else 0) (h : x = nI m) (hm : m < 2 ^ 31) : z = x := by
  rw [e]
  split
  · rfl
  next h0 =>
    rw [h] at h0 ⊢
    by_cases e0 : m = 0
    · rw [e0]; rfl
    · exact absurd (nI_lt (a := 0) (Nat.pos_of_ne_zero e0) hm) h0
theorem bit2 {j : Nat} {x : Int32} (hj : j < 2) (e : x = nI j) : x = 0 ∨ x = 1 := by
  rcases (show j = 0 ∨ j = 1 by omega) with rfl | rfl
  · exact Or.inl e
  · exact Or.inr e
set_option maxHeartbeats 8000000 in
set_option maxRecDepth 100000 in
theorem law_168 (G : gG Z) (X : gOK Z Γ cL_law RL 23 (some .boolean)) (RM : Γ.2.2.1 = room_1) (hA : gArg Z t0 N f Γ.2.2.2.1 Γ.2.2.2.1.heap) (hN : N ≤ 2000) (hL : LR Z a P h) (hJ : LJ B O (nI T) P) (hT : T ≤ 2000) (h9 : x9 = nI r) (hr : r < 2) (h10 : x10 = nI g) (hg : g < 14) (h8 : x8 = nI i) (hi : i ≤ 420) (hkn : kk + 100 ≤ KB ∧ nn + 1500 ≤ NB) (hKB : KB ≤ 60000 ∧ NB ≤ 300000) (K : lK Z Γ a t0 B x7 KB NB T) : GJ Z Γ h kk nn 168 [(10, .int x10), (9, .int x9), (8, .int x8), (7, .int x7), (6, .int 1), (4, .long O), (2, .long B), (1, .ref a), (0, .ref t0)] [] := by
  refine g_aload_n X dL_law_168 rfl ?_
  refine g_iload X dL_law_169 rfl ?_
  refine g_callS X lm_L_210 (c_L_isDispatched G hL hJ (r := r) h9 hr) rfl rfl (Nat.le_of_ble_eq_true rfl) (by rw [RM]; exact ⟨Nat.le_of_ble_eq_true rfl, Nat.le_of_ble_eq_true rfl⟩) (by rw [RM]; have rC := rm_C; have rS := rm_S; show _ + _ ≤ room_1.cells ∧ _ + _ ≤ room_1.slots; omega) dL_law_171 (fun v hz q => ?_) (fun _ _ q => q.elim)
  obtain ⟨_, rfl, P171, hL, hJ, rfl⟩ := q
  refine GJ.seq (st' := [.int 1]) rfl ?_
  refine g_istore (lv' := [(6, .int 1), (10, .int x10), (9, .int x9), (8, .int x8), (7, .int x7), (4, .long O), (2, .long B), (1, .ref a), (0, .ref t0)]) X dL_law_174 (by decide) rfl ?_
  refine g_goto 904 X dL_law_176 (by decide) ?_
  refine GJ.pick [4, 0, 5, 6, 7, 8] rfl ?_
  exact K _ _ P171 _ _ T (by omega) (by omega) (by omega) hL hJ
set_option maxHeartbeats 8000000 in
set_option maxRecDepth 100000 in
theorem law_179 (G : gG Z) (X : gOK Z Γ cL_law RL 23 (some .boolean)) (RM : Γ.2.2.1 = room_1) (hA : gArg Z t0 N f Γ.2.2.2.1 Γ.2.2.2.1.heap) (hN : N ≤ 2000) (hL : LR Z a P h) (hJ : LJ B O (nI T) P) (hT : T ≤ 2000) (h9 : x9 = nI r) (hr : r < 2) (h10 : x10 = nI g) (hg : g < 14) (h8 : x8 = nI i) (hi : i ≤ 420) (hkn : kk + 100 ≤ KB ∧ nn + 1500 ≤ NB) (hKB : KB ≤ 60000 ∧ NB ≤ 300000) (K : lK Z Γ a t0 B x7 KB NB T) : GJ Z Γ h kk nn 179 [(10, .int x10), (9, .int x9), (8, .int x8), (7, .int x7), (6, .int 1), (4, .long O), (2, .long B), (1, .ref a), (0, .ref t0)] [] := by
  refine g_aload_n X dL_law_179 rfl ?_
  obtain ⟨fs180, hb180⟩ := hL.box
  refine g_callV X lm_L_213 (l_ticks G hL) cl_X6 hb180 rfl rfl (Nat.le_of_ble_eq_true rfl) (by rw [RM]; exact ⟨Nat.le_of_ble_eq_true rfl, Nat.le_of_ble_eq_true rfl⟩) (by rw [RM]; have rC := rm_C; have rS := rm_S; show _ + _ ≤ room_1.cells ∧ _ + _ ≤ room_1.slots; omega) dL_law_180 (fun v hz q => ?_) (fun _ _ q => q.elim)
  obtain ⟨x180, rfl, e180, rfl⟩ := q
  refine GJ.seq (st' := [.int x180]) rfl ?_
  have hJ0 := hJ
  refine g_istore (lv' := [(11, .int x180), (10, .int x10), (9, .int x9), (8, .int x8), (7, .int x7), (6, .int 1), (4, .long O), (2, .long B), (1, .ref a), (0, .ref t0)]) X dL_law_183 (by decide) rfl ?_
  refine g_iconst (v := 1) X dL_law_185 (by decide) ?_
  refine g_aload_n X dL_law_186 rfl ?_
  refine g_iload X dL_law_187 rfl ?_
  refine g_iconst (v := 2) X dL_law_189 (by decide) ?_
  refine g_iadd X dL_law_190 (fun x190 e190 => ?_)
  refine g_bipush (v := 20) X dL_law_191 (by decide) ?_
  have i193 : x190 = nI (i + 2) := by rw [e190, h8, show (2 : Int32) = nI 2 from rfl, nI_add]
  refine GJ.seq (st' := [.int (nI 20), .int (nI (i + 2)), .ref t0, .int 1]) (by rw [i193]; first | done | rfl) ?_
  refine g_callSA X hA lm_L_163 (c_L_pick G (i := (i + 2)) (m := 20) (by omega) hN (by decide) (by decide)) rfl rfl (Nat.le_of_ble_eq_true rfl) (by rw [RM]; exact ⟨Nat.le_of_ble_eq_true rfl, Nat.le_of_ble_eq_true rfl⟩) (by rw [RM]; have rC := rm_C; have rS := rm_S; show _ + _ ≤ room_1.cells ∧ _ + _ ≤ room_1.slots; omega) dL_law_193 (fun v hz q => ?_) (fun _ _ q => q.elim)
  obtain ⟨x193, rfl, ⟨j193, hj193, e193⟩, rfl⟩ := q
  refine GJ.seq (st' := [.int x193, .int 1]) rfl ?_
  refine g_iadd X dL_law_196 (fun x196 e196 => ?_)
  refine g_istore (lv' := [(12, .int x196), (11, .int x180), (10, .int x10), (9, .int x9), (8, .int x8), (7, .int x7), (6, .int 1), (4, .long O), (2, .long B), (1, .ref a), (0, .ref t0)]) X dL_law_197 (by decide) rfl ?_
  refine g_aload_n X dL_law_199 rfl ?_
  refine g_bipush (v := 15) X dL_law_200 (by decide) ?_
  refine g_iload X dL_law_202 rfl ?_
  refine g_iconst (v := 0) X dL_law_204 (by decide) ?_
  refine g_callS X lm_L_179 (a_15 G hL hJ (nn := 1 + j193) (show x196 = nI (1 + j193) by rw [e196, e193, show (1 : Int32) = nI 1 from rfl, nI_add]) (by omega)) rfl rfl (Nat.le_of_ble_eq_true rfl) (by rw [RM]; exact ⟨Nat.le_of_ble_eq_true rfl, Nat.le_of_ble_eq_true rfl⟩) (by rw [RM]; have rC := rm_C; have rS := rm_S; show _ + _ ≤ room_1.cells ∧ _ + _ ≤ room_1.slots; omega) dL_law_205 (fun v hz q => ?_) (fun _ _ q => q.elim)
  obtain ⟨x205, rfl, P205, hL, hJ, e205⟩ := q
  refine GJ.seq (st' := [.int x205]) rfl ?_
  rw [nI_add] at hJ
  refine g_iload X dL_law_208 rfl ?_
  refine g_iload X dL_law_210 rfl ?_
  refine g_iadd X dL_law_212 (fun x212 e212 => ?_)
  refine g_icmp_ne 220 X dL_law_213 (by decide) (fun c213 => ?_) (fun c213 => ?_)
  · skip
    exact absurd (by rw [e205, e212, e180, e196, e193, hJ0.2.2.2.2, show (1 : Int32) = nI 1 from rfl, nI_add, nI_add, nI_add]) c213
  · skip
    refine g_iconst (v := 1) X dL_law_216 (by decide) ?_
    refine g_goto 221 X dL_law_217 (by decide) ?_
    refine g_istore (lv' := [(6, .int 1), (12, .int x196), (11, .int x180), (10, .int x10), (9, .int x9), (8, .int x8), (7, .int x7), (4, .long O), (2, .long B), (1, .ref a), (0, .ref t0)]) X dL_law_221 (by decide) rfl ?_
    refine g_goto 904 X dL_law_223 (by decide) ?_
    refine GJ.pick [6, 0, 7, 8, 9, 10] rfl ?_
    exact K _ _ P205 _ _ (T + (1 + j193)) (by omega) (by omega) (by omega) hL hJ
set_option maxHeartbeats 8000000 in
set_option maxRecDepth 100000 in
theorem law_226 (G : gG Z) (X : gOK Z Γ cL_law RL 23 (some .boolean)) (RM : Γ.2.2.1 = room_1) (hA : gArg Z t0 N f Γ.2.2.2.1 Γ.2.2.2.1.heap) (hN : N ≤ 2000) {aS vS : Nat} (hV : vk_R RL 216 "lsr" aS Γ.2.2.2.1) (hF : LitF Z aS vS [108, 115, 114] Γ.2.2.2.1 Γ.2.2.2.1.heap) (hL : LR Z a P h) (hJ : LJ B O (nI T) P) (hT : T ≤ 2000) (h9 : x9 = nI r) (hr : r < 2) (h10 : x10 = nI g) (hg : g < 14) (h8 : x8 = nI i) (hi : i ≤ 420) (hkn : kk + 100 ≤ KB ∧ nn + 1500 ≤ NB) (hKB : KB ≤ 60000 ∧ NB ≤ 300000) (K : lK Z Γ a t0 B x7 KB NB T) : GJ Z Γ h kk nn 226 [(10, .int x10), (9, .int x9), (8, .int x8), (7, .int x7), (6, .int 1), (4, .long O), (2, .long B), (1, .ref a), (0, .ref t0)] [] := by
  refine g_aload_n X dL_law_226 rfl ?_
  refine g_bipush (v := 41) X dL_law_227 (by decide) ?_
  refine g_iload X dL_law_229 rfl ?_
  refine g_bipush (v := 109) X dL_law_231 (by decide) ?_
  refine g_callS X lm_L_179 (a_41 G hL hJ.inv (g := g) h10 (hJ.g hg) (Or.inl rfl)) rfl rfl (Nat.le_of_ble_eq_true rfl) (by rw [RM]; exact ⟨Nat.le_of_ble_eq_true rfl, Nat.le_of_ble_eq_true rfl⟩) (by rw [RM]; have rC := rm_C; have rS := rm_S; show _ + _ ≤ room_1.cells ∧ _ + _ ≤ room_1.slots; omega) dL_law_233 (fun v hz q => ?_) (fun _ _ q => q.elim)
  obtain ⟨x233, rfl, e233, rfl⟩ := q
  refine GJ.seq (st' := [.int x233]) rfl ?_
  refine g_istore (lv' := [(13, .int x233), (10, .int x10), (9, .int x9), (8, .int x8), (7, .int x7), (6, .int 1), (4, .long O), (2, .long B), (1, .ref a), (0, .ref t0)]) X dL_law_236 (by decide) rfl ?_
  refine g_aload_n X dL_law_238 rfl ?_
  refine g_bipush (v := 18) X dL_law_239 (by decide) ?_
  refine g_iload X dL_law_241 rfl ?_
  refine g_iload X dL_law_243 rfl ?_
  refine gs_ldc X hV dL_law_245 ?_
  refine g_aload_n X dL_law_247 rfl ?_
  refine g_iload X dL_law_248 rfl ?_
  refine g_iconst (v := 3) X dL_law_250 (by decide) ?_
  refine g_iadd X dL_law_251 (fun x251 e251 => ?_)
  refine g_iconst (v := 3) X dL_law_252 (by decide) ?_
  have i253 : x251 = nI (i + 3) := by rw [e251, h8, show (3 : Int32) = nI 3 from rfl, nI_add]
  refine GJ.seq (st' := [.int (nI 3), .int (nI (i + 3)), .ref t0, .ref aS, .int x9, .int x10, .int 18, .ref a]) (by rw [i253]; first | done | rfl) ?_
  refine g_callSA X hA lm_L_163 (c_L_pick G (i := (i + 3)) (m := 3) (by omega) hN (by decide) (by decide)) rfl rfl (Nat.le_of_ble_eq_true rfl) (by rw [RM]; exact ⟨Nat.le_of_ble_eq_true rfl, Nat.le_of_ble_eq_true rfl⟩) (by rw [RM]; have rC := rm_C; have rS := rm_S; show _ + _ ≤ room_1.cells ∧ _ + _ ≤ room_1.slots; omega) dL_law_253 (fun v hz q => ?_) (fun _ _ q => q.elim)
  obtain ⟨x253, rfl, ⟨j253, hj253, e253⟩, rfl⟩ := q
  refine GJ.seq (st' := [.int x253, .ref aS, .int x9, .int x10, .int 18, .ref a]) rfl ?_
  refine GJ.seq (st' := [.int (nI j253), .ref aS, .int x9, .int x10, .int 18, .ref a]) (by rw [e253]) ?_
  refine g_callVL X hF lm_L_218s (s_charAt G (i := j253) hj253 (by decide) (lsr_c j253 hj253).1 (lsr_c j253 hj253).2) rfl rfl (Nat.le_of_ble_eq_true rfl) (by rw [RM]; exact ⟨Nat.le_of_ble_eq_true rfl, Nat.le_of_ble_eq_true rfl⟩) (by rw [RM]; have rC := rm_C; have rS := rm_S; show _ + _ ≤ room_1.cells ∧ _ + _ ≤ room_1.slots; omega) dL_law_256 (fun v hz q => ?_) (fun _ _ q => q.elim)
  obtain ⟨x256, rfl, e256, rfl⟩ := q
  refine GJ.seq (st' := [.int x256, .int x9, .int x10, .int 18, .ref a]) rfl ?_
  obtain ⟨qq, hqq⟩ := lsr_q hj253 e256
  refine g_iconst (v := 0) X dL_law_259 (by decide) ?_
  refine g_iconst (v := 0) X dL_law_260 (by decide) ?_
  obtain ⟨Q261, hQ261, hM261, hI261⟩ := a_18 G hL hJ h10 hg h9 hr hqq
  refine g_callSH X lh_L_160 hM261 rfl rfl (Nat.le_of_ble_eq_true rfl) (by rw [RM]; exact ⟨Nat.le_of_ble_eq_true rfl, Nat.le_of_ble_eq_true rfl⟩) (by rw [RM]; have rC := rm_C; have rS := rm_S; show _ + _ ≤ room_1.cells ∧ _ + _ ≤ room_1.slots; omega) dL_law_261 (fun v hz q => ?_) (fun _ _ q => q.elim)
  replace q := hI261 v hz q
  obtain ⟨x261, rfl, P261, hL, hJ, e261⟩ := q
  refine GJ.seq (st' := [.int x261]) rfl ?_
  refine g_istore (lv' := [(14, .int x261), (13, .int x233), (10, .int x10), (9, .int x9), (8, .int x8), (7, .int x7), (6, .int 1), (4, .long O), (2, .long B), (1, .ref a), (0, .ref t0)]) X dL_law_264 (by decide) rfl ?_
  refine g_iload X dL_law_266 rfl ?_
  refine g_sipush (v := (-2004)) X dL_law_268 (by decide) ?_
  refine g_icmp_ne 297 X dL_law_271 (by decide) (fun c271 => ?_) (fun c271 => ?_)
  · skip
    refine g_iload X dL_law_297 rfl ?_
    refine g_if_le 335 X dL_law_299 (by decide) (fun c299 => ?_) (fun c299 => ?_)
    · skip
      rcases e261 with ⟨e, -⟩ | ⟨e, -⟩
      · exact absurd e c271
      · exact absurd e c299
    · skip
      refine g_aload_n X dL_law_302 rfl ?_
      refine g_bipush (v := 40) X dL_law_303 (by decide) ?_
      refine g_iload X dL_law_305 rfl ?_
      refine g_iconst (v := 0) X dL_law_307 (by decide) ?_
      refine g_callS X lm_L_179 (a_40 G hL hJ.inv (g := g) h10 (hJ.g hg)) rfl rfl (Nat.le_of_ble_eq_true rfl) (by rw [RM]; exact ⟨Nat.le_of_ble_eq_true rfl, Nat.le_of_ble_eq_true rfl⟩) (by rw [RM]; have rC := rm_C; have rS := rm_S; show _ + _ ≤ room_1.cells ∧ _ + _ ≤ room_1.slots; omega) dL_law_308 (fun v hz q => ?_) (fun _ _ q => q.elim)
      obtain ⟨x308, rfl, e308, rfl⟩ := q
      refine GJ.seq (st' := [.int x308]) rfl ?_
      refine g_bipush (v := 113) X dL_law_311 (by decide) ?_
      refine g_icmp_ne 335 X dL_law_313 (by decide) (fun c313 => ?_) (fun c313 => ?_)
      · skip
        rcases e261 with ⟨e, -⟩ | ⟨-, e, -⟩
        · exact absurd e c271
        · exact absurd (e308.trans e) c313
      · skip
        refine g_aload_n X dL_law_316 rfl ?_
        refine g_bipush (v := 41) X dL_law_317 (by decide) ?_
        refine g_iload X dL_law_319 rfl ?_
        refine g_bipush (v := 109) X dL_law_321 (by decide) ?_
        refine g_callS X lm_L_179 (a_41 G hL hJ.inv (g := g) h10 (hJ.g hg) (Or.inl rfl)) rfl rfl (Nat.le_of_ble_eq_true rfl) (by rw [RM]; exact ⟨Nat.le_of_ble_eq_true rfl, Nat.le_of_ble_eq_true rfl⟩) (by rw [RM]; have rC := rm_C; have rS := rm_S; show _ + _ ≤ room_1.cells ∧ _ + _ ≤ room_1.slots; omega) dL_law_323 (fun v hz q => ?_) (fun _ _ q => q.elim)
        obtain ⟨x323, rfl, e323, rfl⟩ := q
        refine GJ.seq (st' := [.int x323]) rfl ?_
        refine g_iload X dL_law_326 rfl ?_
        refine g_icmp_gt 335 X dL_law_328 (by decide) (fun c328 => ?_) (fun c328 => ?_)
        · skip
          rcases e261 with ⟨e, -⟩ | ⟨-, -, e⟩
          · exact absurd e c271
          · exact absurd (by rw [← show x233 = pI P 1 g 0 0 from e233, ← show x323 = pI P261 1 g 0 0 from e323] at e; exact c328) (by rw [show x233 = pI P 1 g 0 0 from e233, show x323 = pI P261 1 g 0 0 from e323]; exact e)
        · skip
          refine g_iconst (v := 1) X dL_law_331 (by decide) ?_
          refine g_goto 336 X dL_law_332 (by decide) ?_
          refine g_istore (lv' := [(6, .int 1), (14, .int x261), (13, .int x233), (10, .int x10), (9, .int x9), (8, .int x8), (7, .int x7), (4, .long O), (2, .long B), (1, .ref a), (0, .ref t0)]) X dL_law_336 (by decide) rfl ?_
          refine g_goto 904 X dL_law_338 (by decide) ?_
          refine GJ.pick [6, 0, 7, 8, 9, 10] rfl ?_
          exact K _ _ P261 _ _ T (by omega) (by omega) (by omega) hL hJ
  · skip
    refine g_aload_n X dL_law_274 rfl ?_
    refine g_bipush (v := 41) X dL_law_275 (by decide) ?_
    refine g_iload X dL_law_277 rfl ?_
    refine g_bipush (v := 109) X dL_law_279 (by decide) ?_
    refine g_callS X lm_L_179 (a_41 G hL hJ.inv (g := g) h10 (hJ.g hg) (Or.inl rfl)) rfl rfl (Nat.le_of_ble_eq_true rfl) (by rw [RM]; exact ⟨Nat.le_of_ble_eq_true rfl, Nat.le_of_ble_eq_true rfl⟩) (by rw [RM]; have rC := rm_C; have rS := rm_S; show _ + _ ≤ room_1.cells ∧ _ + _ ≤ room_1.slots; omega) dL_law_281 (fun v hz q => ?_) (fun _ _ q => q.elim)
    obtain ⟨x281, rfl, e281, rfl⟩ := q
    refine GJ.seq (st' := [.int x281]) rfl ?_
    refine g_iload X dL_law_284 rfl ?_
    refine g_icmp_ne 293 X dL_law_286 (by decide) (fun c286 => ?_) (fun c286 => ?_)
    · skip
      rcases e261 with ⟨-, e⟩ | ⟨e, -⟩
      · exact absurd (e281.trans (e.trans e233.symm)) c286
      · exact absurd (Int32.lt_trans e (by rw [c271]; exact i_m2004)) (Int32.lt_irrefl)
    · skip
      refine g_iconst (v := 1) X dL_law_289 (by decide) ?_
      refine g_goto 336 X dL_law_290 (by decide) ?_
      refine g_istore (lv' := [(6, .int 1), (14, .int x261), (13, .int x233), (10, .int x10), (9, .int x9), (8, .int x8), (7, .int x7), (4, .long O), (2, .long B), (1, .ref a), (0, .ref t0)]) X dL_law_336 (by decide) rfl ?_
      refine g_goto 904 X dL_law_338 (by decide) ?_
      refine GJ.pick [6, 0, 7, 8, 9, 10] rfl ?_
      exact K _ _ P261 _ _ T (by omega) (by omega) (by omega) hL hJ
set_option maxHeartbeats 8000000 in
set_option maxRecDepth 100000 in
theorem law_341 (G : gG Z) (X : gOK Z Γ cL_law RL 23 (some .boolean)) (RM : Γ.2.2.1 = room_1) (hA : gArg Z t0 N f Γ.2.2.2.1 Γ.2.2.2.1.heap) (hN : N ≤ 2000) (hL : LR Z a P h) (hJ : LJ B O (nI T) P) (hT : T ≤ 2000) (h9 : x9 = nI r) (hr : r < 2) (h10 : x10 = nI g) (hg : g < 14) (h8 : x8 = nI i) (hi : i ≤ 420) (hkn : kk + 100 ≤ KB ∧ nn + 1500 ≤ NB) (hKB : KB ≤ 60000 ∧ NB ≤ 300000) (K : lK Z Γ a t0 B x7 KB NB T) : GJ Z Γ h kk nn 341 [(10, .int x10), (9, .int x9), (8, .int x8), (7, .int x7), (6, .int 1), (4, .long O), (2, .long B), (1, .ref a), (0, .ref t0)] [] := by
  refine g_aload_n X dL_law_341 rfl ?_
  refine g_bipush (v := 41) X dL_law_342 (by decide) ?_
  refine g_iload X dL_law_344 rfl ?_
  refine g_bipush (v := 109) X dL_law_346 (by decide) ?_
  refine g_callS X lm_L_179 (a_41 G hL hJ.inv (g := g) h10 (hJ.g hg) (Or.inl rfl)) rfl rfl (Nat.le_of_ble_eq_true rfl) (by rw [RM]; exact ⟨Nat.le_of_ble_eq_true rfl, Nat.le_of_ble_eq_true rfl⟩) (by rw [RM]; have rC := rm_C; have rS := rm_S; show _ + _ ≤ room_1.cells ∧ _ + _ ≤ room_1.slots; omega) dL_law_348 (fun v hz q => ?_) (fun _ _ q => q.elim)
  obtain ⟨x348, rfl, e348, rfl⟩ := q
  refine GJ.seq (st' := [.int x348]) rfl ?_
  refine g_istore (lv' := [(15, .int x348), (10, .int x10), (9, .int x9), (8, .int x8), (7, .int x7), (6, .int 1), (4, .long O), (2, .long B), (1, .ref a), (0, .ref t0)]) X dL_law_351 (by decide) rfl ?_
  refine g_aload_n X dL_law_353 rfl ?_
  refine g_bipush (v := 19) X dL_law_354 (by decide) ?_
  refine g_iload X dL_law_356 rfl ?_
  refine g_iconst (v := 0) X dL_law_358 (by decide) ?_
  refine g_callS X lm_L_179 (a_19 G hL hJ h10 hg) rfl rfl (Nat.le_of_ble_eq_true rfl) (by rw [RM]; exact ⟨Nat.le_of_ble_eq_true rfl, Nat.le_of_ble_eq_true rfl⟩) (by rw [RM]; have rC := rm_C; have rS := rm_S; show _ + _ ≤ room_1.cells ∧ _ + _ ≤ room_1.slots; omega) dL_law_359 (fun v hz q => ?_) (fun _ _ q => q.elim)
  obtain ⟨x359, rfl, P359, hL, hJ, e359⟩ := q
  refine GJ.seq (st' := [.int x359]) rfl ?_
  refine g_istore (lv' := [(16, .int x359), (15, .int x348), (10, .int x10), (9, .int x9), (8, .int x8), (7, .int x7), (6, .int 1), (4, .long O), (2, .long B), (1, .ref a), (0, .ref t0)]) X dL_law_362 (by decide) rfl ?_
  refine g_iload X dL_law_364 rfl ?_
  refine g_sipush (v := (-2004)) X dL_law_366 (by decide) ?_
  refine g_icmp_ne 395 X dL_law_369 (by decide) (fun c369 => ?_) (fun c369 => ?_)
  · skip
    refine g_aload_n X dL_law_395 rfl ?_
    refine g_bipush (v := 41) X dL_law_396 (by decide) ?_
    refine g_iload X dL_law_398 rfl ?_
    refine g_bipush (v := 109) X dL_law_400 (by decide) ?_
    refine g_callS X lm_L_179 (a_41 G hL hJ.inv (g := g) h10 (hJ.g hg) (Or.inl rfl)) rfl rfl (Nat.le_of_ble_eq_true rfl) (by rw [RM]; exact ⟨Nat.le_of_ble_eq_true rfl, Nat.le_of_ble_eq_true rfl⟩) (by rw [RM]; have rC := rm_C; have rS := rm_S; show _ + _ ≤ room_1.cells ∧ _ + _ ≤ room_1.slots; omega) dL_law_402 (fun v hz q => ?_) (fun _ _ q => q.elim)
    obtain ⟨x402, rfl, e402, rfl⟩ := q
    refine GJ.seq (st' := [.int x402]) rfl ?_
    refine g_iload X dL_law_405 rfl ?_
    refine g_iload X dL_law_407 rfl ?_
    refine g_iadd X dL_law_409 (fun x409 e409 => ?_)
    refine g_icmp_ne 431 X dL_law_410 (by decide) (fun c410 => ?_) (fun c410 => ?_)
    · skip
      rcases e359 with ⟨e, -⟩ | ⟨-, e, -⟩
      · exact absurd e c369
      · exact absurd (by rw [e409, show x348 = pI P 1 g 0 0 from e348]; exact e402.trans e) c410
    · skip
      refine g_aload_n X dL_law_413 rfl ?_
      refine g_bipush (v := 40) X dL_law_414 (by decide) ?_
      refine g_iload X dL_law_416 rfl ?_
      refine g_iconst (v := 0) X dL_law_418 (by decide) ?_
      refine g_callS X lm_L_179 (a_40 G hL hJ.inv (g := g) h10 (hJ.g hg)) rfl rfl (Nat.le_of_ble_eq_true rfl) (by rw [RM]; exact ⟨Nat.le_of_ble_eq_true rfl, Nat.le_of_ble_eq_true rfl⟩) (by rw [RM]; have rC := rm_C; have rS := rm_S; show _ + _ ≤ room_1.cells ∧ _ + _ ≤ room_1.slots; omega) dL_law_419 (fun v hz q => ?_) (fun _ _ q => q.elim)
      obtain ⟨x419, rfl, e419, rfl⟩ := q
      refine GJ.seq (st' := [.int x419]) rfl ?_
      refine g_bipush (v := 112) X dL_law_422 (by decide) ?_
      refine g_icmp_ne 431 X dL_law_424 (by decide) (fun c424 => ?_) (fun c424 => ?_)
      · skip
        rcases e359 with ⟨e, -⟩ | ⟨-, -, e⟩
        · exact absurd e c369
        · exact absurd (e419.trans e) c424
      · skip
        refine g_iconst (v := 1) X dL_law_427 (by decide) ?_
        refine g_goto 432 X dL_law_428 (by decide) ?_
        refine g_istore (lv' := [(6, .int 1), (16, .int x359), (15, .int x348), (10, .int x10), (9, .int x9), (8, .int x8), (7, .int x7), (4, .long O), (2, .long B), (1, .ref a), (0, .ref t0)]) X dL_law_432 (by decide) rfl ?_
        refine g_goto 904 X dL_law_434 (by decide) ?_
        refine GJ.pick [6, 0, 7, 8, 9, 10] rfl ?_
        exact K _ _ P359 _ _ T (by omega) (by omega) (by omega) hL hJ
  · skip
    refine g_aload_n X dL_law_372 rfl ?_
    refine g_bipush (v := 41) X dL_law_373 (by decide) ?_
    refine g_iload X dL_law_375 rfl ?_
    refine g_bipush (v := 109) X dL_law_377 (by decide) ?_
    refine g_callS X lm_L_179 (a_41 G hL hJ.inv (g := g) h10 (hJ.g hg) (Or.inl rfl)) rfl rfl (Nat.le_of_ble_eq_true rfl) (by rw [RM]; exact ⟨Nat.le_of_ble_eq_true rfl, Nat.le_of_ble_eq_true rfl⟩) (by rw [RM]; have rC := rm_C; have rS := rm_S; show _ + _ ≤ room_1.cells ∧ _ + _ ≤ room_1.slots; omega) dL_law_379 (fun v hz q => ?_) (fun _ _ q => q.elim)
    obtain ⟨x379, rfl, e379, rfl⟩ := q
    refine GJ.seq (st' := [.int x379]) rfl ?_
    refine g_iload X dL_law_382 rfl ?_
    refine g_icmp_ne 391 X dL_law_384 (by decide) (fun c384 => ?_) (fun c384 => ?_)
    · skip
      rcases e359 with ⟨-, e⟩ | ⟨e, -⟩
      · exact absurd (e379.trans (e.trans e348.symm)) c384
      · exact absurd (by rw [c369]; exact i_m2004) e
    · skip
      refine g_iconst (v := 1) X dL_law_387 (by decide) ?_
      refine g_goto 432 X dL_law_388 (by decide) ?_
      refine g_istore (lv' := [(6, .int 1), (16, .int x359), (15, .int x348), (10, .int x10), (9, .int x9), (8, .int x8), (7, .int x7), (4, .long O), (2, .long B), (1, .ref a), (0, .ref t0)]) X dL_law_432 (by decide) rfl ?_
      refine g_goto 904 X dL_law_434 (by decide) ?_
      refine GJ.pick [6, 0, 7, 8, 9, 10] rfl ?_
      exact K _ _ P359 _ _ T (by omega) (by omega) (by omega) hL hJ
set_option maxHeartbeats 8000000 in
set_option maxRecDepth 100000 in
theorem law_437 (G : gG Z) (X : gOK Z Γ cL_law RL 23 (some .boolean)) (RM : Γ.2.2.1 = room_1) (hA : gArg Z t0 N f Γ.2.2.2.1 Γ.2.2.2.1.heap) (hN : N ≤ 2000) (hL : LR Z a P h) (hJ : LJ B O (nI T) P) (hT : T ≤ 2000) (h9 : x9 = nI r) (hr : r < 2) (h10 : x10 = nI g) (hg : g < 14) (h8 : x8 = nI i) (hi : i ≤ 420) (hkn : kk + 100 ≤ KB ∧ nn + 1500 ≤ NB) (hKB : KB ≤ 60000 ∧ NB ≤ 300000) (K : lK Z Γ a t0 B x7 KB NB T) : GJ Z Γ h kk nn 437 [(10, .int x10), (9, .int x9), (8, .int x8), (7, .int x7), (6, .int 1), (4, .long O), (2, .long B), (1, .ref a), (0, .ref t0)] [] := by
  refine g_aload_n X dL_law_437 rfl ?_
  refine g_bipush (v := 20) X dL_law_438 (by decide) ?_
  refine g_iload X dL_law_440 rfl ?_
  refine g_iload X dL_law_442 rfl ?_
  refine g_callS X lm_L_179 (a_20 G hL hJ h10 hg h9 hr rfl (by omega)) rfl rfl (Nat.le_of_ble_eq_true rfl) (by rw [RM]; exact ⟨Nat.le_of_ble_eq_true rfl, Nat.le_of_ble_eq_true rfl⟩) (by rw [RM]; have rC := rm_C; have rS := rm_S; show _ + _ ≤ room_1.cells ∧ _ + _ ≤ room_1.slots; omega) dL_law_444 (fun v hz q => ?_) (fun _ _ q => q.elim)
  obtain ⟨x444, rfl, P444, hL, hJ, e444⟩ := q
  refine GJ.seq (st' := [.int x444]) rfl ?_
  refine g_istore (lv' := [(17, .int x444), (10, .int x10), (9, .int x9), (8, .int x8), (7, .int x7), (6, .int 1), (4, .long O), (2, .long B), (1, .ref a), (0, .ref t0)]) X dL_law_447 (by decide) rfl ?_
  refine g_iload X dL_law_449 rfl ?_
  refine g_sipush (v := (-2004)) X dL_law_451 (by decide) ?_
  refine g_icmp_ne 479 X dL_law_454 (by decide) (fun c454 => ?_) (fun c454 => ?_)
  · skip
    refine g_iload X dL_law_479 rfl ?_
    refine g_aload_n X dL_law_481 rfl ?_
    obtain ⟨fs482, hb482⟩ := hL.box
    refine g_callV X lm_L_213 (l_ticks G hL) cl_X6 hb482 rfl rfl (Nat.le_of_ble_eq_true rfl) (by rw [RM]; exact ⟨Nat.le_of_ble_eq_true rfl, Nat.le_of_ble_eq_true rfl⟩) (by rw [RM]; have rC := rm_C; have rS := rm_S; show _ + _ ≤ room_1.cells ∧ _ + _ ≤ room_1.slots; omega) dL_law_482 (fun v hz q => ?_) (fun _ _ q => q.elim)
    obtain ⟨x482, rfl, e482, rfl⟩ := q
    refine GJ.seq (st' := [.int x482, .int x444]) rfl ?_
    refine g_iconst (v := 5) X dL_law_485 (by decide) ?_
    refine g_iadd X dL_law_486 (fun x486 e486 => ?_)
    refine g_aload_n X dL_law_487 rfl ?_
    refine g_bipush (v := 39) X dL_law_488 (by decide) ?_
    refine g_iload X dL_law_490 rfl ?_
    refine g_bipush (v := 108) X dL_law_492 (by decide) ?_
    refine g_callS X lm_L_179 (a_39 G hL hJ.inv (r := r) h9 (hJ.r hr) (q := 0) (Or.inl ⟨rfl, rfl⟩)) rfl rfl (Nat.le_of_ble_eq_true rfl) (by rw [RM]; exact ⟨Nat.le_of_ble_eq_true rfl, Nat.le_of_ble_eq_true rfl⟩) (by rw [RM]; have rC := rm_C; have rS := rm_S; show _ + _ ≤ room_1.cells ∧ _ + _ ≤ room_1.slots; omega) dL_law_494 (fun v hz q => ?_) (fun _ _ q => q.elim)
    obtain ⟨x494, rfl, e494, rfl⟩ := q
    refine GJ.seq (st' := [.int x494, .int x486, .int x444]) rfl ?_
    refine g_iadd X dL_law_497 (fun x497 e497 => ?_)
    refine g_icmp_ne 505 X dL_law_498 (by decide) (fun c498 => ?_) (fun c498 => ?_)
    · skip
      rcases e444 with ⟨e, -⟩ | ⟨-, e⟩
      · exact absurd e c454
      · exact absurd (by rw [e497, e486, e482, e494, e, hJ.2.2.2.2]) c498
    · skip
      refine g_iconst (v := 1) X dL_law_501 (by decide) ?_
      refine g_goto 506 X dL_law_502 (by decide) ?_
      refine g_istore (lv' := [(6, .int 1), (17, .int x444), (10, .int x10), (9, .int x9), (8, .int x8), (7, .int x7), (4, .long O), (2, .long B), (1, .ref a), (0, .ref t0)]) X dL_law_506 (by decide) rfl ?_
      refine g_goto 904 X dL_law_508 (by decide) ?_
      refine GJ.pick [5, 0, 6, 7, 8, 9] rfl ?_
      exact K _ _ P444 _ _ T (by omega) (by omega) (by omega) hL hJ
  · skip
    refine g_aload_n X dL_law_457 rfl ?_
    refine g_bipush (v := 40) X dL_law_458 (by decide) ?_
    refine g_iload X dL_law_460 rfl ?_
    refine g_iconst (v := 0) X dL_law_462 (by decide) ?_
    refine g_callS X lm_L_179 (a_40 G hL hJ.inv (g := g) h10 (hJ.g hg)) rfl rfl (Nat.le_of_ble_eq_true rfl) (by rw [RM]; exact ⟨Nat.le_of_ble_eq_true rfl, Nat.le_of_ble_eq_true rfl⟩) (by rw [RM]; have rC := rm_C; have rS := rm_S; show _ + _ ≤ room_1.cells ∧ _ + _ ≤ room_1.slots; omega) dL_law_463 (fun v hz q => ?_) (fun _ _ q => q.elim)
    obtain ⟨x463, rfl, e463, rfl⟩ := q
    refine GJ.seq (st' := [.int x463]) rfl ?_
    refine g_bipush (v := 111) X dL_law_466 (by decide) ?_
    refine g_icmp_ne 475 X dL_law_468 (by decide) (fun c468 => ?_) (fun c468 => ?_)
    · skip
      rcases e444 with ⟨-, e⟩ | ⟨e, -⟩
      · exact absurd (e463.trans e) c468
      · exact absurd (by rw [c454]; exact i_m2004) e
    · skip
      refine g_iconst (v := 1) X dL_law_471 (by decide) ?_
      refine g_goto 506 X dL_law_472 (by decide) ?_
      refine g_istore (lv' := [(6, .int 1), (17, .int x444), (10, .int x10), (9, .int x9), (8, .int x8), (7, .int x7), (4, .long O), (2, .long B), (1, .ref a), (0, .ref t0)]) X dL_law_506 (by decide) rfl ?_
      refine g_goto 904 X dL_law_508 (by decide) ?_
      refine GJ.pick [5, 0, 6, 7, 8, 9] rfl ?_
      exact K _ _ P444 _ _ T (by omega) (by omega) (by omega) hL hJ
set_option maxHeartbeats 8000000 in
set_option maxRecDepth 100000 in
theorem law_511 (G : gG Z) (X : gOK Z Γ cL_law RL 23 (some .boolean)) (RM : Γ.2.2.1 = room_1) (hA : gArg Z t0 N f Γ.2.2.2.1 Γ.2.2.2.1.heap) (hN : N ≤ 2000) (hL : LR Z a P h) (hJ : LJ B O (nI T) P) (hT : T ≤ 2000) (h9 : x9 = nI r) (hr : r < 2) (h10 : x10 = nI g) (hg : g < 14) (h8 : x8 = nI i) (hi : i ≤ 420) (hkn : kk + 100 ≤ KB ∧ nn + 1500 ≤ NB) (hKB : KB ≤ 60000 ∧ NB ≤ 300000) (K : lK Z Γ a t0 B x7 KB NB T) : GJ Z Γ h kk nn 511 [(10, .int x10), (9, .int x9), (8, .int x8), (7, .int x7), (6, .int 1), (4, .long O), (2, .long B), (1, .ref a), (0, .ref t0)] [] := by
  refine g_aload_n X dL_law_511 rfl ?_
  refine g_iload X dL_law_512 rfl ?_
  refine g_iconst (v := 3) X dL_law_514 (by decide) ?_
  refine g_iadd X dL_law_515 (fun x515 e515 => ?_)
  refine g_iconst (v := 4) X dL_law_516 (by decide) ?_
  have i517 : x515 = nI (i + 3) := by rw [e515, h8, show (3 : Int32) = nI 3 from rfl, nI_add]
  refine GJ.seq (st' := [.int (nI 4), .int (nI (i + 3)), .ref t0]) (by rw [i517]; first | done | rfl) ?_
  refine g_callSA X hA lm_L_163 (c_L_pick G (i := (i + 3)) (m := 4) (by omega) hN (by decide) (by decide)) rfl rfl (Nat.le_of_ble_eq_true rfl) (by rw [RM]; exact ⟨Nat.le_of_ble_eq_true rfl, Nat.le_of_ble_eq_true rfl⟩) (by rw [RM]; have rC := rm_C; have rS := rm_S; show _ + _ ≤ room_1.cells ∧ _ + _ ≤ room_1.slots; omega) dL_law_517 (fun v hz q => ?_) (fun _ _ q => q.elim)
  obtain ⟨x517, rfl, ⟨j517, hj517, e517⟩, rfl⟩ := q
  refine GJ.seq (st' := [.int x517]) rfl ?_
  refine g_if_ne 593 X dL_law_520 (by decide) (fun c520 => ?_) (fun c520 => ?_)
  · skip
    refine g_aload_n X dL_law_593 rfl ?_
    refine g_bipush (v := 21) X dL_law_594 (by decide) ?_
    refine g_iload X dL_law_596 rfl ?_
    refine g_iconst (v := 0) X dL_law_598 (by decide) ?_
    refine g_callS X lm_L_179 (a_21 G hL hJ h10 hg) rfl rfl (Nat.le_of_ble_eq_true rfl) (by rw [RM]; exact ⟨Nat.le_of_ble_eq_true rfl, Nat.le_of_ble_eq_true rfl⟩) (by rw [RM]; have rC := rm_C; have rS := rm_S; show _ + _ ≤ room_1.cells ∧ _ + _ ≤ room_1.slots; omega) dL_law_599 (fun v hz q => ?_) (fun _ _ q => q.elim)
    obtain ⟨x599, rfl, P599, hL, hJ, e599⟩ := q
    refine GJ.seq (st' := [.int x599]) rfl ?_
    refine g_pop X dL_law_602 rfl ?_
    refine g_goto 904 X dL_law_603 (by decide) ?_
    refine GJ.pick [3, 4, 5, 6, 7, 8] rfl ?_
    exact K _ _ P599 _ _ T (by omega) (by omega) (by omega) hL hJ
  · skip
    refine g_aload_n X dL_law_523 rfl ?_
    refine g_bipush (v := 17) X dL_law_524 (by decide) ?_
    refine g_iload X dL_law_526 rfl ?_
    refine g_iconst (v := 0) X dL_law_528 (by decide) ?_
    refine g_callS X lm_L_179 (a_17 G hL hJ h10 hg) rfl rfl (Nat.le_of_ble_eq_true rfl) (by rw [RM]; exact ⟨Nat.le_of_ble_eq_true rfl, Nat.le_of_ble_eq_true rfl⟩) (by rw [RM]; have rC := rm_C; have rS := rm_S; show _ + _ ≤ room_1.cells ∧ _ + _ ≤ room_1.slots; omega) dL_law_529 (fun v hz q => ?_) (fun _ _ q => q.elim)
    obtain ⟨x529, rfl, P529, hL, e529⟩ := q
    refine GJ.seq (st' := [.int x529]) rfl ?_
    rcases e529 with ⟨e529, hJ⟩ | ⟨m, hm, e529, hJ, h111⟩
    · skip
      refine g_istore (lv' := [(18, .int x529), (10, .int x10), (9, .int x9), (8, .int x8), (7, .int x7), (6, .int 1), (4, .long O), (2, .long B), (1, .ref a), (0, .ref t0)]) X dL_law_532 (by decide) rfl ?_
      refine g_lload X dL_law_534 rfl ?_
      refine g_iconst (v := 0) X dL_law_536 (by decide) ?_
      refine g_iload X dL_law_537 rfl ?_
      refine gp_maxR X lm_L_176 (by rw [RM]; exact Nat.le_of_ble_eq_true rfl) (by rw [RM]; exact Nat.le_of_ble_eq_true rfl) (by rw [RM]; have rC := rm_C; show _ ≤ room_1.cells; omega) (by rw [RM]; have rS := rm_S; show _ ≤ room_1.slots; omega) dL_law_539 (fun x539 e539 => ?_)
      refine g_i2l X dL_law_542 (fun x542 e542 => ?_)
      refine g_ladd X dL_law_543 (fun x543 e543 => ?_)
      refine g_lstore (lv' := [(4, .long x543), (18, .int x529), (10, .int x10), (9, .int x9), (8, .int x8), (7, .int x7), (6, .int 1), (2, .long B), (1, .ref a), (0, .ref t0)]) X dL_law_544 (by decide) rfl ?_
      refine g_iload X dL_law_546 rfl ?_
      refine g_sipush (v := (-2004)) X dL_law_548 (by decide) ?_
      refine g_icmp_eq 583 X dL_law_551 (by decide) (fun c551 => ?_) (fun c551 => ?_)
      · skip
        refine g_iconst (v := 1) X dL_law_583 (by decide) ?_
        refine g_goto 588 X dL_law_584 (by decide) ?_
        refine g_istore (lv' := [(6, .int 1), (4, .long x543), (18, .int x529), (10, .int x10), (9, .int x9), (8, .int x8), (7, .int x7), (2, .long B), (1, .ref a), (0, .ref t0)]) X dL_law_588 (by decide) rfl ?_
        refine g_goto 904 X dL_law_590 (by decide) ?_
        refine GJ.pick [6, 0, 1, 7, 8, 9] rfl ?_
        have eO : x543 = O := by rw [e543, e542, max_neg e539 e529]; exact Int64.add_zero _
        rw [eO]
        exact K _ _ P529 _ _ T (by omega) (by omega) (by omega) hL hJ
      · skip
        exact absurd e529 c551
    · skip
      refine g_istore (lv' := [(18, .int x529), (10, .int x10), (9, .int x9), (8, .int x8), (7, .int x7), (6, .int 1), (4, .long O), (2, .long B), (1, .ref a), (0, .ref t0)]) X dL_law_532 (by decide) rfl ?_
      refine g_lload X dL_law_534 rfl ?_
      refine g_iconst (v := 0) X dL_law_536 (by decide) ?_
      refine g_iload X dL_law_537 rfl ?_
      refine gp_maxR X lm_L_176 (by rw [RM]; exact Nat.le_of_ble_eq_true rfl) (by rw [RM]; exact Nat.le_of_ble_eq_true rfl) (by rw [RM]; have rC := rm_C; show _ ≤ room_1.cells; omega) (by rw [RM]; have rS := rm_S; show _ ≤ room_1.slots; omega) dL_law_539 (fun x539 e539 => ?_)
      refine g_i2l X dL_law_542 (fun x542 e542 => ?_)
      refine g_ladd X dL_law_543 (fun x543 e543 => ?_)
      refine g_lstore (lv' := [(4, .long x543), (18, .int x529), (10, .int x10), (9, .int x9), (8, .int x8), (7, .int x7), (6, .int 1), (2, .long B), (1, .ref a), (0, .ref t0)]) X dL_law_544 (by decide) rfl ?_
      refine g_iload X dL_law_546 rfl ?_
      refine g_sipush (v := (-2004)) X dL_law_548 (by decide) ?_
      refine g_icmp_eq 583 X dL_law_551 (by decide) (fun c551 => ?_) (fun c551 => ?_)
      · skip
        exact absurd (e529.symm.trans c551) (n_m2004 (by omega))
      · skip
        refine g_aload_n X dL_law_554 rfl ?_
        refine g_bipush (v := 40) X dL_law_555 (by decide) ?_
        refine g_iload X dL_law_557 rfl ?_
        refine g_iconst (v := 0) X dL_law_559 (by decide) ?_
        refine g_callS X lm_L_179 (a_40 G hL hJ.inv (g := g) h10 (hJ.g hg)) rfl rfl (Nat.le_of_ble_eq_true rfl) (by rw [RM]; exact ⟨Nat.le_of_ble_eq_true rfl, Nat.le_of_ble_eq_true rfl⟩) (by rw [RM]; have rC := rm_C; have rS := rm_S; show _ + _ ≤ room_1.cells ∧ _ + _ ≤ room_1.slots; omega) dL_law_560 (fun v hz q => ?_) (fun _ _ q => q.elim)
        obtain ⟨x560, rfl, e560, rfl⟩ := q
        refine GJ.seq (st' := [.int x560]) rfl ?_
        refine g_bipush (v := 111) X dL_law_563 (by decide) ?_
        refine g_icmp_ne 587 X dL_law_565 (by decide) (fun c565 => ?_) (fun c565 => ?_)
        · skip
          exact absurd (e560.trans h111) c565
        · skip
          refine g_aload_n X dL_law_568 rfl ?_
          refine g_bipush (v := 21) X dL_law_569 (by decide) ?_
          refine g_iload X dL_law_571 rfl ?_
          refine g_iconst (v := 0) X dL_law_573 (by decide) ?_
          refine g_callS X lm_L_179 (a_21 G hL hJ h10 hg) rfl rfl (Nat.le_of_ble_eq_true rfl) (by rw [RM]; exact ⟨Nat.le_of_ble_eq_true rfl, Nat.le_of_ble_eq_true rfl⟩) (by rw [RM]; have rC := rm_C; have rS := rm_S; show _ + _ ≤ room_1.cells ∧ _ + _ ≤ room_1.slots; omega) dL_law_574 (fun v hz q => ?_) (fun _ _ q => q.elim)
          obtain ⟨x574, rfl, P574, hL, hJ, e574⟩ := q
          refine GJ.seq (st' := [.int x574]) rfl ?_
          refine g_sipush (v := (-2004)) X dL_law_577 (by decide) ?_
          refine g_icmp_ne 587 X dL_law_580 (by decide) (fun c580 => ?_) (fun c580 => ?_)
          · skip
            rcases e574 with e | e
            · exact absurd e c580
            · exact absurd (h111.symm.trans e) (by decide)
          · skip
            refine g_iconst (v := 1) X dL_law_583 (by decide) ?_
            refine g_goto 588 X dL_law_584 (by decide) ?_
            refine g_istore (lv' := [(6, .int 1), (4, .long x543), (18, .int x529), (10, .int x10), (9, .int x9), (8, .int x8), (7, .int x7), (2, .long B), (1, .ref a), (0, .ref t0)]) X dL_law_588 (by decide) rfl ?_
            refine g_goto 904 X dL_law_590 (by decide) ?_
            refine GJ.pick [6, 0, 1, 7, 8, 9] rfl ?_
            have eO : x543 = O + x529.toInt64 := by rw [e543, e542, max_pos e539 e529 (by omega)]
            rw [eO]
            exact K _ _ P574 _ _ T (by omega) (by omega) (by omega) hL hJ
set_option maxHeartbeats 8000000 in
set_option maxRecDepth 100000 in
theorem law_606 (G : gG Z) (X : gOK Z Γ cL_law RL 23 (some .boolean)) (RM : Γ.2.2.1 = room_1) (hA : gArg Z t0 N f Γ.2.2.2.1 Γ.2.2.2.1.heap) (hN : N ≤ 2000) (hL : LR Z a P h) (hJ : LJ B O (nI T) P) (hT : T ≤ 2000) (h9 : x9 = nI r) (hr : r < 2) (h10 : x10 = nI g) (hg : g < 14) (h8 : x8 = nI i) (hi : i ≤ 420) (hkn : kk + 100 ≤ KB ∧ nn + 1500 ≤ NB) (hKB : KB ≤ 60000 ∧ NB ≤ 300000) (K : lK Z Γ a t0 B x7 KB NB T) : GJ Z Γ h kk nn 606 [(10, .int x10), (9, .int x9), (8, .int x8), (7, .int x7), (6, .int 1), (4, .long O), (2, .long B), (1, .ref a), (0, .ref t0)] [] := by
  refine g_aload_n X dL_law_606 rfl ?_
  refine g_bipush (v := 11) X dL_law_607 (by decide) ?_
  refine g_aload_n X dL_law_609 rfl ?_
  refine g_iload X dL_law_610 rfl ?_
  refine g_iconst (v := 2) X dL_law_612 (by decide) ?_
  refine g_iadd X dL_law_613 (fun x613 e613 => ?_)
  refine g_bipush (v := 41) X dL_law_614 (by decide) ?_
  have i616 : x613 = nI (i + 2) := by rw [e613, h8, show (2 : Int32) = nI 2 from rfl, nI_add]
  refine GJ.seq (st' := [.int (nI 41), .int (nI (i + 2)), .ref t0, .int 11, .ref a]) (by rw [i616]; first | done | rfl) ?_
  refine g_callSA X hA lm_L_163 (c_L_pick G (i := (i + 2)) (m := 41) (by omega) hN (by decide) (by decide)) rfl rfl (Nat.le_of_ble_eq_true rfl) (by rw [RM]; exact ⟨Nat.le_of_ble_eq_true rfl, Nat.le_of_ble_eq_true rfl⟩) (by rw [RM]; have rC := rm_C; have rS := rm_S; show _ + _ ≤ room_1.cells ∧ _ + _ ≤ room_1.slots; omega) dL_law_616 (fun v hz q => ?_) (fun _ _ q => q.elim)
  obtain ⟨x616, rfl, ⟨j616, hj616, e616⟩, rfl⟩ := q
  refine GJ.seq (st' := [.int x616, .int 11, .ref a]) rfl ?_
  refine g_iconst (v := 0) X dL_law_619 (by decide) ?_
  refine g_callS X lm_L_179 (a_11 G hL hJ e616 (by omega)) rfl rfl (Nat.le_of_ble_eq_true rfl) (by rw [RM]; exact ⟨Nat.le_of_ble_eq_true rfl, Nat.le_of_ble_eq_true rfl⟩) (by rw [RM]; have rC := rm_C; have rS := rm_S; show _ + _ ≤ room_1.cells ∧ _ + _ ≤ room_1.slots; omega) dL_law_620 (fun v hz q => ?_) (fun _ _ q => q.elim)
  obtain ⟨x620, rfl, P620, hL, hJ⟩ := q
  refine GJ.seq (st' := [.int x620]) rfl ?_
  refine g_pop X dL_law_623 rfl ?_
  refine g_aload_n X dL_law_624 rfl ?_
  refine g_bipush (v := 12) X dL_law_625 (by decide) ?_
  refine g_aload_n X dL_law_627 rfl ?_
  refine g_iload X dL_law_628 rfl ?_
  refine g_iconst (v := 3) X dL_law_630 (by decide) ?_
  refine g_iadd X dL_law_631 (fun x631 e631 => ?_)
  refine g_bipush (v := 100) X dL_law_632 (by decide) ?_
  have i634 : x631 = nI (i + 3) := by rw [e631, h8, show (3 : Int32) = nI 3 from rfl, nI_add]
  refine GJ.seq (st' := [.int (nI 100), .int (nI (i + 3)), .ref t0, .int 12, .ref a]) (by rw [i634]; first | done | rfl) ?_
  refine g_callSA X hA lm_L_163 (c_L_pick G (i := (i + 3)) (m := 100) (by omega) hN (by decide) (by decide)) rfl rfl (Nat.le_of_ble_eq_true rfl) (by rw [RM]; exact ⟨Nat.le_of_ble_eq_true rfl, Nat.le_of_ble_eq_true rfl⟩) (by rw [RM]; have rC := rm_C; have rS := rm_S; show _ + _ ≤ room_1.cells ∧ _ + _ ≤ room_1.slots; omega) dL_law_634 (fun v hz q => ?_) (fun _ _ q => q.elim)
  obtain ⟨x634, rfl, ⟨j634, hj634, e634⟩, rfl⟩ := q
  refine GJ.seq (st' := [.int x634, .int 12, .ref a]) rfl ?_
  refine g_iconst (v := 0) X dL_law_637 (by decide) ?_
  refine g_callS X lm_L_179 (a_12 G hL hJ e634 (by omega)) rfl rfl (Nat.le_of_ble_eq_true rfl) (by rw [RM]; exact ⟨Nat.le_of_ble_eq_true rfl, Nat.le_of_ble_eq_true rfl⟩) (by rw [RM]; have rC := rm_C; have rS := rm_S; show _ + _ ≤ room_1.cells ∧ _ + _ ≤ room_1.slots; omega) dL_law_638 (fun v hz q => ?_) (fun _ _ q => q.elim)
  obtain ⟨x638, rfl, P638, hL, hJ⟩ := q
  refine GJ.seq (st' := [.int x638]) rfl ?_
  refine g_pop X dL_law_641 rfl ?_
  refine g_goto 904 X dL_law_642 (by decide) ?_
  refine GJ.pick [3, 4, 5, 6, 7, 8] rfl ?_
  exact K _ _ P638 _ _ T (by omega) (by omega) (by omega) hL hJ
set_option maxHeartbeats 8000000 in
set_option maxRecDepth 100000 in
theorem law_645 (G : gG Z) (X : gOK Z Γ cL_law RL 23 (some .boolean)) (RM : Γ.2.2.1 = room_1) (hA : gArg Z t0 N f Γ.2.2.2.1 Γ.2.2.2.1.heap) (hN : N ≤ 2000) {aS vS : Nat} (hV : vk_R RL 223 "tttan" aS Γ.2.2.2.1) (hF : LitF Z aS vS [116, 116, 116, 97, 110] Γ.2.2.2.1 Γ.2.2.2.1.heap) (hL : LR Z a P h) (hJ : LJ B O (nI T) P) (hT : T ≤ 2000) (h9 : x9 = nI r) (hr : r < 2) (h10 : x10 = nI g) (hg : g < 14) (h8 : x8 = nI i) (hi : i ≤ 420) (hkn : kk + 100 ≤ KB ∧ nn + 1500 ≤ NB) (hKB : KB ≤ 60000 ∧ NB ≤ 300000) (K : lK Z Γ a t0 B x7 KB NB T) : GJ Z Γ h kk nn 645 [(10, .int x10), (9, .int x9), (8, .int x8), (7, .int x7), (6, .int 1), (4, .long O), (2, .long B), (1, .ref a), (0, .ref t0)] [] := by
  refine g_aload_n X dL_law_645 rfl ?_
  refine g_bipush (v := 33) X dL_law_646 (by decide) ?_
  refine g_iload X dL_law_648 rfl ?_
  refine g_iconst (v := 1) X dL_law_650 (by decide) ?_
  refine g_callS X lm_L_179 (a_33 G hL hJ.inv (r := r) h9 (hJ.r hr)) rfl rfl (Nat.le_of_ble_eq_true rfl) (by rw [RM]; exact ⟨Nat.le_of_ble_eq_true rfl, Nat.le_of_ble_eq_true rfl⟩) (by rw [RM]; have rC := rm_C; have rS := rm_S; show _ + _ ≤ room_1.cells ∧ _ + _ ≤ room_1.slots; omega) dL_law_651 (fun v hz q => ?_) (fun _ _ q => q.elim)
  obtain ⟨x651, rfl, e651, rfl⟩ := q
  refine GJ.seq (st' := [.int x651]) rfl ?_
  have hnn : ¬ x651 < 0 := by
    rcases e651 with (e | e) | ⟨-, e⟩
    · rw [e]; decide
    · rw [e]; decide
    · exact absurd rfl (e 1 (Nat.lt_of_lt_of_le (by omega) (hJ.2.1.2.2 r hr)))
  refine g_istore (lv' := [(18, .int x651), (10, .int x10), (9, .int x9), (8, .int x8), (7, .int x7), (6, .int 1), (4, .long O), (2, .long B), (1, .ref a), (0, .ref t0)]) X dL_law_654 (by decide) rfl ?_
  refine g_aload_n X dL_law_656 rfl ?_
  refine g_bipush (v := 9) X dL_law_657 (by decide) ?_
  refine g_iload X dL_law_659 rfl ?_
  refine g_aload_n X dL_law_661 rfl ?_
  refine g_iload X dL_law_662 rfl ?_
  refine g_iconst (v := 2) X dL_law_664 (by decide) ?_
  refine g_iadd X dL_law_665 (fun x665 e665 => ?_)
  refine g_iconst (v := 4) X dL_law_666 (by decide) ?_
  have i667 : x665 = nI (i + 2) := by rw [e665, h8, show (2 : Int32) = nI 2 from rfl, nI_add]
  refine GJ.seq (st' := [.int (nI 4), .int (nI (i + 2)), .ref t0, .int x9, .int 9, .ref a]) (by rw [i667]; first | done | rfl) ?_
  refine g_callSA X hA lm_L_163 (c_L_pick G (i := (i + 2)) (m := 4) (by omega) hN (by decide) (by decide)) rfl rfl (Nat.le_of_ble_eq_true rfl) (by rw [RM]; exact ⟨Nat.le_of_ble_eq_true rfl, Nat.le_of_ble_eq_true rfl⟩) (by rw [RM]; have rC := rm_C; have rS := rm_S; show _ + _ ≤ room_1.cells ∧ _ + _ ≤ room_1.slots; omega) dL_law_667 (fun v hz q => ?_) (fun _ _ q => q.elim)
  obtain ⟨x667, rfl, ⟨j667, hj667, e667⟩, rfl⟩ := q
  refine GJ.seq (st' := [.int x667, .int x9, .int 9, .ref a]) rfl ?_
  refine g_aload_n X dL_law_670 rfl ?_
  refine g_iload X dL_law_671 rfl ?_
  refine g_iconst (v := 3) X dL_law_673 (by decide) ?_
  refine g_iadd X dL_law_674 (fun x674 e674 => ?_)
  refine g_iconst (v := 2) X dL_law_675 (by decide) ?_
  have i676 : x674 = nI (i + 3) := by rw [e674, h8, show (3 : Int32) = nI 3 from rfl, nI_add]
  refine GJ.seq (st' := [.int (nI 2), .int (nI (i + 3)), .ref t0, .int x667, .int x9, .int 9, .ref a]) (by rw [i676]; first | done | rfl) ?_
  refine g_callSA X hA lm_L_163 (c_L_pick G (i := (i + 3)) (m := 2) (by omega) hN (by decide) (by decide)) rfl rfl (Nat.le_of_ble_eq_true rfl) (by rw [RM]; exact ⟨Nat.le_of_ble_eq_true rfl, Nat.le_of_ble_eq_true rfl⟩) (by rw [RM]; have rC := rm_C; have rS := rm_S; show _ + _ ≤ room_1.cells ∧ _ + _ ≤ room_1.slots; omega) dL_law_676 (fun v hz q => ?_) (fun _ _ q => q.elim)
  obtain ⟨x676, rfl, ⟨j676, hj676, e676⟩, rfl⟩ := q
  refine GJ.seq (st' := [.int x676, .int x667, .int x9, .int 9, .ref a]) rfl ?_
  refine gs_ldc X hV dL_law_679 ?_
  refine g_aload_n X dL_law_681 rfl ?_
  refine g_iload X dL_law_682 rfl ?_
  refine g_iconst (v := 4) X dL_law_684 (by decide) ?_
  refine g_iadd X dL_law_685 (fun x685 e685 => ?_)
  refine g_iconst (v := 5) X dL_law_686 (by decide) ?_
  have i687 : x685 = nI (i + 4) := by rw [e685, h8, show (4 : Int32) = nI 4 from rfl, nI_add]
  refine GJ.seq (st' := [.int (nI 5), .int (nI (i + 4)), .ref t0, .ref aS, .int x676, .int x667, .int x9, .int 9, .ref a]) (by rw [i687]; first | done | rfl) ?_
  refine g_callSA X hA lm_L_163 (c_L_pick G (i := (i + 4)) (m := 5) (by omega) hN (by decide) (by decide)) rfl rfl (Nat.le_of_ble_eq_true rfl) (by rw [RM]; exact ⟨Nat.le_of_ble_eq_true rfl, Nat.le_of_ble_eq_true rfl⟩) (by rw [RM]; have rC := rm_C; have rS := rm_S; show _ + _ ≤ room_1.cells ∧ _ + _ ≤ room_1.slots; omega) dL_law_687 (fun v hz q => ?_) (fun _ _ q => q.elim)
  obtain ⟨x687, rfl, ⟨j687, hj687, e687⟩, rfl⟩ := q
  refine GJ.seq (st' := [.int x687, .ref aS, .int x676, .int x667, .int x9, .int 9, .ref a]) rfl ?_
  refine GJ.seq (st' := [.int (nI j687), .ref aS, .int x676, .int x667, .int x9, .int 9, .ref a]) (by rw [e687]) ?_
  refine g_callVL X hF lm_L_218s (s_charAt G (i := j687) hj687 (by decide) (ttt_c j687 hj687).1 (ttt_c j687 hj687).2) rfl rfl (Nat.le_of_ble_eq_true rfl) (by rw [RM]; exact ⟨Nat.le_of_ble_eq_true rfl, Nat.le_of_ble_eq_true rfl⟩) (by rw [RM]; have rC := rm_C; have rS := rm_S; show _ + _ ≤ room_1.cells ∧ _ + _ ≤ room_1.slots; omega) dL_law_690 (fun v hz q => ?_) (fun _ _ q => q.elim)
  obtain ⟨x690, rfl, e690, rfl⟩ := q
  refine GJ.seq (st' := [.int x690, .int x676, .int x667, .int x9, .int 9, .ref a]) rfl ?_
  refine g_iconst (v := 0) X dL_law_693 (by decide) ?_
  obtain ⟨Q694, hQ694, hM694, hI694⟩ := a_9 G hL hJ h9 hr e667 hj667 (bit2 hj676 e676) (ttt_w hj687 e690)
  refine g_callSH X lh_L_160 hM694 rfl rfl (Nat.le_of_ble_eq_true rfl) (by rw [RM]; exact ⟨Nat.le_of_ble_eq_true rfl, Nat.le_of_ble_eq_true rfl⟩) (by rw [RM]; have rC := rm_C; have rS := rm_S; show _ + _ ≤ room_1.cells ∧ _ + _ ≤ room_1.slots; omega) dL_law_694 (fun v hz q => ?_) (fun _ _ q => q.elim)
  replace q := hI694 v hz q
  obtain ⟨x694, rfl, P694, hL, hJ⟩ := q
  refine GJ.seq (st' := [.int x694]) rfl ?_
  refine g_pop X dL_law_697 rfl ?_
  refine g_aload_n X dL_law_698 rfl ?_
  refine g_bipush (v := 10) X dL_law_699 (by decide) ?_
  refine g_iload X dL_law_701 rfl ?_
  refine g_iconst (v := 0) X dL_law_703 (by decide) ?_
  refine g_callS X lm_L_179 (a_10 G hL hJ h9 hr) rfl rfl (Nat.le_of_ble_eq_true rfl) (by rw [RM]; exact ⟨Nat.le_of_ble_eq_true rfl, Nat.le_of_ble_eq_true rfl⟩) (by rw [RM]; have rC := rm_C; have rS := rm_S; show _ + _ ≤ room_1.cells ∧ _ + _ ≤ room_1.slots; omega) dL_law_704 (fun v hz q => ?_) (fun _ _ q => q.elim)
  obtain ⟨x704, rfl, P704, hL, hJ⟩ := q
  refine GJ.seq (st' := [.int x704]) rfl ?_
  refine g_pop X dL_law_707 rfl ?_
  refine g_iload X dL_law_708 rfl ?_
  refine g_if_lt 717 X dL_law_710 (by decide) (fun c710 => ?_) (fun c710 => ?_)
  · skip
    exact absurd c710 hnn
  · skip
    refine g_iconst (v := 1) X dL_law_713 (by decide) ?_
    refine g_goto 718 X dL_law_714 (by decide) ?_
    refine g_istore (lv' := [(6, .int 1), (18, .int x651), (10, .int x10), (9, .int x9), (8, .int x8), (7, .int x7), (4, .long O), (2, .long B), (1, .ref a), (0, .ref t0)]) X dL_law_718 (by decide) rfl ?_
    refine g_goto 904 X dL_law_720 (by decide) ?_
    refine GJ.pick [5, 0, 6, 7, 8, 9] rfl ?_
    exact K _ _ P704 _ _ T (by omega) (by omega) (by omega) hL hJ
set_option maxHeartbeats 8000000 in
set_option maxRecDepth 100000 in
theorem law_723 (G : gG Z) (X : gOK Z Γ cL_law RL 23 (some .boolean)) (RM : Γ.2.2.1 = room_1) (hA : gArg Z t0 N f Γ.2.2.2.1 Γ.2.2.2.1.heap) (hN : N ≤ 2000) (hL : LR Z a P h) (hJ : LJ B O (nI T) P) (hT : T ≤ 2000) (h9 : x9 = nI r) (hr : r < 2) (h10 : x10 = nI g) (hg : g < 14) (h8 : x8 = nI i) (hi : i ≤ 420) (hkn : kk + 100 ≤ KB ∧ nn + 1500 ≤ NB) (hKB : KB ≤ 60000 ∧ NB ≤ 300000) (K : lK Z Γ a t0 B x7 KB NB T) : GJ Z Γ h kk nn 723 [(10, .int x10), (9, .int x9), (8, .int x8), (7, .int x7), (6, .int 1), (4, .long O), (2, .long B), (1, .ref a), (0, .ref t0)] [] := by
  have LT : ∀ (m : Nat) (j k1 n1 : Nat) (x20 x19 : Int32) (P1 : gP) (h1 : gH) (hL : LR Z a P1 h1) (hJ : LJ B O (nI T) P1) (e19 : (x19 = -2004 ∨ x19 = -2003) ∨ ∃ j, j < 4 ∧ x19 = nI j) (hm : m + j = pnT P1 r) (hk1 : k1 + m * 8 + 8 ≤ KB ∧ n1 + m * 50 + 50 ≤ NB) (h20 : x20 = nI j), GJ Z Γ h1 k1 n1 747 [(20, .int x20), (19, .int x19), (10, .int x10), (9, .int x9), (8, .int x8), (7, .int x7), (6, .int 1), (4, .long O), (2, .long B), (1, .ref a), (0, .ref t0)] [] := by
    intro m
    induction m with
    | zero =>
      intro j k1 n1 x20 x19 P1 h1 hL hJ e19 hm hk1 h20
      have hj : j = pnT P1 r := by omega
      refine g_aload_n X dL_law_747 rfl ?_
      refine g_bipush (v := 37) X dL_law_748 (by decide) ?_
      refine g_iload X dL_law_750 rfl ?_
      refine g_iload X dL_law_752 rfl ?_
      refine g_callS X lm_L_179 (a_37 G hL hJ.inv (r := r) h9 (hJ.r hr)) rfl rfl (Nat.le_of_ble_eq_true rfl) (by rw [RM]; exact ⟨Nat.le_of_ble_eq_true rfl, Nat.le_of_ble_eq_true rfl⟩) (by rw [RM]; have rC := rm_C; have rS := rm_S; show _ + _ ≤ room_1.cells ∧ _ + _ ≤ room_1.slots; omega) dL_law_754 (fun v hz q => ?_) (fun _ _ q => q.elim)
      obtain ⟨x754, rfl, e754, rfl⟩ := q
      refine GJ.seq (st' := [.int x754]) rfl ?_
      replace e754 := tr_end e754 (by rw [h20, hj]) ((hJ.inv.1.2 r (hJ.r hr)).1.2.1)
      refine g_sipush (v := (-2001)) X dL_law_757 (by decide) ?_
      refine g_icmp_eq 866 X dL_law_760 (by decide) (fun c760 => ?_) (fun c760 => ?_)
      · skip
        refine g_iload X dL_law_866 rfl ?_
        refine g_if_eq 901 X dL_law_868 (by decide) (fun c868 => ?_) (fun c868 => ?_)
        · skip
          exact absurd c868 (by decide)
        · skip
          refine g_iload X dL_law_871 rfl ?_
          refine g_sipush (v := (-2004)) X dL_law_873 (by decide) ?_
          refine g_icmp_eq 897 X dL_law_876 (by decide) (fun c876 => ?_) (fun c876 => ?_)
          · skip
            refine g_iconst (v := 1) X dL_law_897 (by decide) ?_
            refine g_goto 902 X dL_law_898 (by decide) ?_
            refine g_istore (lv' := [(6, .int 1), (20, .int x20), (19, .int x19), (10, .int x10), (9, .int x9), (8, .int x8), (7, .int x7), (4, .long O), (2, .long B), (1, .ref a), (0, .ref t0)]) X dL_law_902 (by decide) rfl ?_
            refine GJ.pick [6, 0, 7, 8, 9, 10] rfl ?_
            exact K _ _ P1 _ _ T (by omega) (by omega) (by omega) hL hJ
          · skip
            refine g_iload X dL_law_879 rfl ?_
            refine g_sipush (v := (-2003)) X dL_law_881 (by decide) ?_
            refine g_icmp_eq 897 X dL_law_884 (by decide) (fun c884 => ?_) (fun c884 => ?_)
            · skip
              refine g_iconst (v := 1) X dL_law_897 (by decide) ?_
              refine g_goto 902 X dL_law_898 (by decide) ?_
              refine g_istore (lv' := [(6, .int 1), (20, .int x20), (19, .int x19), (10, .int x10), (9, .int x9), (8, .int x8), (7, .int x7), (4, .long O), (2, .long B), (1, .ref a), (0, .ref t0)]) X dL_law_902 (by decide) rfl ?_
              refine GJ.pick [6, 0, 7, 8, 9, 10] rfl ?_
              exact K _ _ P1 _ _ T (by omega) (by omega) (by omega) hL hJ
            · skip
              refine g_iload X dL_law_887 rfl ?_
              refine g_if_gt 897 X dL_law_889 (by decide) (fun c889 => ?_) (fun c889 => ?_)
              · skip
                refine g_iconst (v := 1) X dL_law_897 (by decide) ?_
                refine g_goto 902 X dL_law_898 (by decide) ?_
                refine g_istore (lv' := [(6, .int 1), (20, .int x20), (19, .int x19), (10, .int x10), (9, .int x9), (8, .int x8), (7, .int x7), (4, .long O), (2, .long B), (1, .ref a), (0, .ref t0)]) X dL_law_902 (by decide) rfl ?_
                refine GJ.pick [6, 0, 7, 8, 9, 10] rfl ?_
                exact K _ _ P1 _ _ T (by omega) (by omega) (by omega) hL hJ
              · skip
                refine g_iload X dL_law_892 rfl ?_
                refine g_if_ne 901 X dL_law_894 (by decide) (fun c894 => ?_) (fun c894 => ?_)
                · skip
                  rcases e19 with (e | e) | ⟨j2, hj2, e⟩
                  · exact absurd e c876
                  · exact absurd e c884
                  · exact absurd (nI_lt (a := 0) (b := j2) (Nat.pos_of_ne_zero (fun e0 => c894 (by rw [e, e0]; rfl))) (by omega)) (by rw [e] at c889; exact c889)
                · skip
                  refine g_iconst (v := 1) X dL_law_897 (by decide) ?_
                  refine g_goto 902 X dL_law_898 (by decide) ?_
                  refine g_istore (lv' := [(6, .int 1), (20, .int x20), (19, .int x19), (10, .int x10), (9, .int x9), (8, .int x8), (7, .int x7), (4, .long O), (2, .long B), (1, .ref a), (0, .ref t0)]) X dL_law_902 (by decide) rfl ?_
                  refine GJ.pick [6, 0, 7, 8, 9, 10] rfl ?_
                  exact K _ _ P1 _ _ T (by omega) (by omega) (by omega) hL hJ
      · skip
        exact absurd e754 c760
    | succ m ih =>
      intro j k1 n1 x20 x19 P1 h1 hL hJ e19 hm hk1 h20
      have hj : j < pnT P1 r := by omega
      obtain ⟨bq, hbq, hbe, -, -⟩ := (hJ.inv.1.2 r (hJ.r hr)).2.2.2.2.1 j hj
      have hst := hJ.inv.wf.tst (hJ.r hr) hj
      have hst2 : ¬ pI P1 5 r j 5 = -2001 := fun e => by rw [e] at hst; exact absurd hst.2 (by decide)
      refine g_aload_n X dL_law_747 rfl ?_
      refine g_bipush (v := 37) X dL_law_748 (by decide) ?_
      refine g_iload X dL_law_750 rfl ?_
      refine g_iload X dL_law_752 rfl ?_
      refine g_callS X lm_L_179 (a_37 G hL hJ.inv (r := r) h9 (hJ.r hr)) rfl rfl (Nat.le_of_ble_eq_true rfl) (by rw [RM]; exact ⟨Nat.le_of_ble_eq_true rfl, Nat.le_of_ble_eq_true rfl⟩) (by rw [RM]; have rC := rm_C; have rS := rm_S; show _ + _ ≤ room_1.cells ∧ _ + _ ≤ room_1.slots; omega) dL_law_754 (fun v hz q => ?_) (fun _ _ q => q.elim)
      obtain ⟨x754, rfl, e754, rfl⟩ := q
      refine GJ.seq (st' := [.int x754]) rfl ?_
      replace e754 := tr_at e754 h20 (by first | exact hj | (rw [hnT]; exact hj)) ((hJ.inv.1.2 r (hJ.r hr)).1.2.1)
      refine g_sipush (v := (-2001)) X dL_law_757 (by decide) ?_
      refine g_icmp_eq 866 X dL_law_760 (by decide) (fun c760 => ?_) (fun c760 => ?_)
      · skip
        exact absurd (e754.symm.trans c760) hst2
      · skip
        refine g_aload_n X dL_law_763 rfl ?_
        refine g_bipush (v := 37) X dL_law_764 (by decide) ?_
        refine g_iload X dL_law_766 rfl ?_
        refine g_iload X dL_law_768 rfl ?_
        refine g_callS X lm_L_179 (a_37 G hL hJ.inv (r := r) h9 (hJ.r hr)) rfl rfl (Nat.le_of_ble_eq_true rfl) (by rw [RM]; exact ⟨Nat.le_of_ble_eq_true rfl, Nat.le_of_ble_eq_true rfl⟩) (by rw [RM]; have rC := rm_C; have rS := rm_S; show _ + _ ≤ room_1.cells ∧ _ + _ ≤ room_1.slots; omega) dL_law_770 (fun v hz q => ?_) (fun _ _ q => q.elim)
        obtain ⟨x770, rfl, e770, rfl⟩ := q
        refine GJ.seq (st' := [.int x770]) rfl ?_
        replace e770 := tr_at e770 h20 (by first | exact hj | (rw [hnT]; exact hj)) ((hJ.inv.1.2 r (hJ.r hr)).1.2.1)
        refine g_bipush (v := 120) X dL_law_773 (by decide) ?_
        refine g_icmp_ne 782 X dL_law_775 (by decide) (fun c775 => ?_) (fun c775 => ?_)
        · skip
          refine g_iconst (v := 0) X dL_law_782 (by decide) ?_
          refine g_istore (lv' := [(21, .int 0), (20, .int x20), (19, .int x19), (10, .int x10), (9, .int x9), (8, .int x8), (7, .int x7), (6, .int 1), (4, .long O), (2, .long B), (1, .ref a), (0, .ref t0)]) X dL_law_783 (by decide) rfl ?_
          refine g_aload_n X dL_law_785 rfl ?_
          refine g_bipush (v := 14) X dL_law_786 (by decide) ?_
          refine g_iload X dL_law_788 rfl ?_
          refine g_iload X dL_law_790 rfl ?_
          refine g_callS X lm_L_179 (a_14 G hL hJ h9 hr h20 hj) rfl rfl (Nat.le_of_ble_eq_true rfl) (by rw [RM]; exact ⟨Nat.le_of_ble_eq_true rfl, Nat.le_of_ble_eq_true rfl⟩) (by rw [RM]; have rC := rm_C; have rS := rm_S; show _ + _ ≤ room_1.cells ∧ _ + _ ≤ room_1.slots; omega) dL_law_792 (fun v hz q => ?_) (fun _ _ q => q.elim)
          obtain ⟨x792, rfl, P792, hL, hJ, hnT, e792⟩ := q
          refine GJ.seq (st' := [.int x792]) rfl ?_
          refine g_istore (lv' := [(22, .int x792), (21, .int 0), (20, .int x20), (19, .int x19), (10, .int x10), (9, .int x9), (8, .int x8), (7, .int x7), (6, .int 1), (4, .long O), (2, .long B), (1, .ref a), (0, .ref t0)]) X dL_law_795 (by decide) rfl ?_
          refine g_iload X dL_law_797 rfl ?_
          refine g_if_eq 857 X dL_law_799 (by decide) (fun c799 => ?_) (fun c799 => ?_)
          · skip
            exact absurd c799 (by decide)
          · skip
            refine g_iload X dL_law_802 rfl ?_
            refine g_if_eq 845 X dL_law_804 (by decide) (fun c804 => ?_) (fun c804 => ?_)
            · skip
              refine g_iload X dL_law_845 rfl ?_
              refine g_sipush (v := (-2004)) X dL_law_847 (by decide) ?_
              refine g_icmp_ne 857 X dL_law_850 (by decide) (fun c850 => ?_) (fun c850 => ?_)
              · skip
                rcases e792 with ⟨e, -⟩ | ⟨e, -⟩
                · exact absurd e c850
                · exact absurd (e770.trans e) c775
              · skip
                refine g_iconst (v := 1) X dL_law_853 (by decide) ?_
                refine g_goto 858 X dL_law_854 (by decide) ?_
                refine g_istore (lv' := [(6, .int 1), (22, .int x792), (21, .int 0), (20, .int x20), (19, .int x19), (10, .int x10), (9, .int x9), (8, .int x8), (7, .int x7), (4, .long O), (2, .long B), (1, .ref a), (0, .ref t0)]) X dL_law_858 (by decide) rfl ?_
                refine gp_iinc 3 X dL_law_860 rfl (by decide) (fun x860 e860 => ?_)
                refine GJ.leq (lv' := [(20, .int x860), (6, .int 1), (22, .int x792), (21, .int 0), (19, .int x19), (10, .int x10), (9, .int x9), (8, .int x8), (7, .int x7), (4, .long O), (2, .long B), (1, .ref a), (0, .ref t0)]) rfl ?_
                refine g_goto 747 X dL_law_863 (by decide) ?_
                refine GJ.pick [0, 4, 5, 6, 7, 8, 1, 9, 10, 11, 12] rfl ?_
                exact ih (j + 1) _ _ x860 x19 P792 _ hL hJ e19 (by rw [hnT]; omega) (by omega) (by rw [e860, h20]; exact nI_1 j)
            · skip
              exact absurd c804 (by decide)
        · skip
          refine g_iconst (v := 1) X dL_law_778 (by decide) ?_
          refine g_goto 783 X dL_law_779 (by decide) ?_
          refine g_istore (lv' := [(21, .int 1), (20, .int x20), (19, .int x19), (10, .int x10), (9, .int x9), (8, .int x8), (7, .int x7), (6, .int 1), (4, .long O), (2, .long B), (1, .ref a), (0, .ref t0)]) X dL_law_783 (by decide) rfl ?_
          refine g_aload_n X dL_law_785 rfl ?_
          refine g_bipush (v := 14) X dL_law_786 (by decide) ?_
          refine g_iload X dL_law_788 rfl ?_
          refine g_iload X dL_law_790 rfl ?_
          refine g_callS X lm_L_179 (a_14 G hL hJ h9 hr h20 hj) rfl rfl (Nat.le_of_ble_eq_true rfl) (by rw [RM]; exact ⟨Nat.le_of_ble_eq_true rfl, Nat.le_of_ble_eq_true rfl⟩) (by rw [RM]; have rC := rm_C; have rS := rm_S; show _ + _ ≤ room_1.cells ∧ _ + _ ≤ room_1.slots; omega) dL_law_792 (fun v hz q => ?_) (fun _ _ q => q.elim)
          obtain ⟨x792, rfl, P792, hL, hJ, hnT, e792⟩ := q
          refine GJ.seq (st' := [.int x792]) rfl ?_
          refine g_istore (lv' := [(22, .int x792), (21, .int 1), (20, .int x20), (19, .int x19), (10, .int x10), (9, .int x9), (8, .int x8), (7, .int x7), (6, .int 1), (4, .long O), (2, .long B), (1, .ref a), (0, .ref t0)]) X dL_law_795 (by decide) rfl ?_
          refine g_iload X dL_law_797 rfl ?_
          refine g_if_eq 857 X dL_law_799 (by decide) (fun c799 => ?_) (fun c799 => ?_)
          · skip
            exact absurd c799 (by decide)
          · skip
            refine g_iload X dL_law_802 rfl ?_
            refine g_if_eq 845 X dL_law_804 (by decide) (fun c804 => ?_) (fun c804 => ?_)
            · skip
              exact absurd c804 (by decide)
            · skip
              refine g_iload X dL_law_807 rfl ?_
              refine g_if_lt 857 X dL_law_809 (by decide) (fun c809 => ?_) (fun c809 => ?_)
              · skip
                rcases e792 with ⟨-, e⟩ | ⟨-, -, -, bb, hbb, e⟩
                · exact absurd (e770.symm.trans c775) e
                · exact absurd c809 (by rw [e]; exact nI_pos (by omega))
              · skip
                refine g_aload_n X dL_law_812 rfl ?_
                refine g_bipush (v := 37) X dL_law_813 (by decide) ?_
                refine g_iload X dL_law_815 rfl ?_
                refine g_iload X dL_law_817 rfl ?_
                refine g_callS X lm_L_179 (a_37 G hL hJ.inv (r := r) h9 (hJ.r hr)) rfl rfl (Nat.le_of_ble_eq_true rfl) (by rw [RM]; exact ⟨Nat.le_of_ble_eq_true rfl, Nat.le_of_ble_eq_true rfl⟩) (by rw [RM]; have rC := rm_C; have rS := rm_S; show _ + _ ≤ room_1.cells ∧ _ + _ ≤ room_1.slots; omega) dL_law_819 (fun v hz q => ?_) (fun _ _ q => q.elim)
                obtain ⟨x819, rfl, e819, rfl⟩ := q
                refine GJ.seq (st' := [.int x819]) rfl ?_
                replace e819 := tr_at e819 h20 (by first | exact hj | (rw [hnT]; exact hj)) ((hJ.inv.1.2 r (hJ.r hr)).1.2.1)
                refine g_bipush (v := 115) X dL_law_822 (by decide) ?_
                refine g_icmp_ne 857 X dL_law_824 (by decide) (fun c824 => ?_) (fun c824 => ?_)
                · skip
                  rcases e792 with ⟨-, e⟩ | ⟨-, e, -⟩
                  · exact absurd (e770.symm.trans c775) e
                  · exact absurd (e819.trans e) c824
                · skip
                  refine g_aload_n X dL_law_827 rfl ?_
                  refine g_bipush (v := 35) X dL_law_828 (by decide) ?_
                  refine g_iload X dL_law_830 rfl ?_
                  refine g_iload X dL_law_832 rfl ?_
                  refine g_callS X lm_L_179 (a_35 G hL hJ.inv (r := r) h9 (hJ.r hr)) rfl rfl (Nat.le_of_ble_eq_true rfl) (by rw [RM]; exact ⟨Nat.le_of_ble_eq_true rfl, Nat.le_of_ble_eq_true rfl⟩) (by rw [RM]; have rC := rm_C; have rS := rm_S; show _ + _ ≤ room_1.cells ∧ _ + _ ≤ room_1.slots; omega) dL_law_834 (fun v hz q => ?_) (fun _ _ q => q.elim)
                  obtain ⟨x834, rfl, e834, rfl⟩ := q
                  refine GJ.seq (st' := [.int x834]) rfl ?_
                  replace e834 := tr_at e834 h20 (by first | exact hj | (rw [hnT]; exact hj)) ((hJ.inv.1.2 r (hJ.r hr)).1.2.1)
                  refine g_iload X dL_law_837 rfl ?_
                  refine g_icmp_ne 857 X dL_law_839 (by decide) (fun c839 => ?_) (fun c839 => ?_)
                  · skip
                    rcases e792 with ⟨-, e⟩ | ⟨-, -, e, -⟩
                    · exact absurd (e770.symm.trans c775) e
                    · exact absurd (e834.trans e) c839
                  · skip
                    refine g_goto 853 X dL_law_842 (by decide) ?_
                    refine g_iconst (v := 1) X dL_law_853 (by decide) ?_
                    refine g_goto 858 X dL_law_854 (by decide) ?_
                    refine g_istore (lv' := [(6, .int 1), (22, .int x792), (21, .int 1), (20, .int x20), (19, .int x19), (10, .int x10), (9, .int x9), (8, .int x8), (7, .int x7), (4, .long O), (2, .long B), (1, .ref a), (0, .ref t0)]) X dL_law_858 (by decide) rfl ?_
                    refine gp_iinc 3 X dL_law_860 rfl (by decide) (fun x860 e860 => ?_)
                    refine GJ.leq (lv' := [(20, .int x860), (6, .int 1), (22, .int x792), (21, .int 1), (19, .int x19), (10, .int x10), (9, .int x9), (8, .int x8), (7, .int x7), (4, .long O), (2, .long B), (1, .ref a), (0, .ref t0)]) rfl ?_
                    refine g_goto 747 X dL_law_863 (by decide) ?_
                    refine GJ.pick [0, 4, 5, 6, 7, 8, 1, 9, 10, 11, 12] rfl ?_
                    exact ih (j + 1) _ _ x860 x19 P792 _ hL hJ e19 (by rw [hnT]; omega) (by omega) (by rw [e860, h20]; exact nI_1 j)
  refine g_aload_n X dL_law_723 rfl ?_
  refine g_iconst (v := 3) X dL_law_724 (by decide) ?_
  refine g_iload X dL_law_725 rfl ?_
  refine g_iconst (v := 1) X dL_law_727 (by decide) ?_
  refine g_aload_n X dL_law_728 rfl ?_
  refine g_iload X dL_law_729 rfl ?_
  refine g_iconst (v := 2) X dL_law_731 (by decide) ?_
  refine g_iadd X dL_law_732 (fun x732 e732 => ?_)
  refine g_bipush (v := 8) X dL_law_733 (by decide) ?_
  have i735 : x732 = nI (i + 2) := by rw [e732, h8, show (2 : Int32) = nI 2 from rfl, nI_add]
  refine GJ.seq (st' := [.int (nI 8), .int (nI (i + 2)), .ref t0, .int 1, .int x9, .int 3, .ref a]) (by rw [i735]; first | done | rfl) ?_
  refine g_callSA X hA lm_L_163 (c_L_pick G (i := (i + 2)) (m := 8) (by omega) hN (by decide) (by decide)) rfl rfl (Nat.le_of_ble_eq_true rfl) (by rw [RM]; exact ⟨Nat.le_of_ble_eq_true rfl, Nat.le_of_ble_eq_true rfl⟩) (by rw [RM]; have rC := rm_C; have rS := rm_S; show _ + _ ≤ room_1.cells ∧ _ + _ ≤ room_1.slots; omega) dL_law_735 (fun v hz q => ?_) (fun _ _ q => q.elim)
  obtain ⟨x735, rfl, ⟨j735, hj735, e735⟩, rfl⟩ := q
  refine GJ.seq (st' := [.int x735, .int 1, .int x9, .int 3, .ref a]) rfl ?_
  refine g_iadd X dL_law_738 (fun x738 e738 => ?_)
  refine g_callS X lm_L_179 (a_3 G hL hJ (s := 1 + j735) h9 hr (show x738 = nI (1 + j735) by rw [e738, e735, show (1 : Int32) = nI 1 from rfl, nI_add]) (by omega)) rfl rfl (Nat.le_of_ble_eq_true rfl) (by rw [RM]; exact ⟨Nat.le_of_ble_eq_true rfl, Nat.le_of_ble_eq_true rfl⟩) (by rw [RM]; have rC := rm_C; have rS := rm_S; show _ + _ ≤ room_1.cells ∧ _ + _ ≤ room_1.slots; omega) dL_law_739 (fun v hz q => ?_) (fun _ _ q => q.elim)
  obtain ⟨x739, rfl, P739, hL, hJ, e739⟩ := q
  refine GJ.seq (st' := [.int x739]) rfl ?_
  refine g_istore (lv' := [(19, .int x739), (10, .int x10), (9, .int x9), (8, .int x8), (7, .int x7), (6, .int 1), (4, .long O), (2, .long B), (1, .ref a), (0, .ref t0)]) X dL_law_742 (by decide) rfl ?_
  refine g_iconst (v := 0) X dL_law_744 (by decide) ?_
  refine g_istore (lv' := [(20, .int 0), (19, .int x739), (10, .int x10), (9, .int x9), (8, .int x8), (7, .int x7), (6, .int 1), (4, .long O), (2, .long B), (1, .ref a), (0, .ref t0)]) X dL_law_745 (by decide) rfl ?_
  have hT4 := ((hJ.inv.1.2 r (hJ.r hr)).1.2.1)
  exact LT (pnT P739 r) 0 _ _ 0 x739 P739 _ hL hJ e739 rfl (by omega) rfl
end GLAWC
