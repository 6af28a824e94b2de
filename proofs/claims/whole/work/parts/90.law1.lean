/-! the law: its calls -/
/-- what the law's own rows are: the script's elements, its length, the end with true -/
def scR (D : va_G) (A : Nat → Prop) (H0 : Heap) (G : vx_G) (bs L : Nat) (xs : Nat → Int32) : Prop := (∀ (h : vx_h) (k n pc i : Nat) (lv : List (Nat × Value)) (st : List Value), i < L → decode code pc = .ok (.iaload, 1) → vx_V D vcl A H0 4 G h k n (pc + 1) lv (.int (xs i) :: st) → vx_V D vcl A H0 4 G h k n pc lv (.int (nI i) :: .ref bs :: st)) ∧ (∀ (h : vx_h) (k n pc : Nat) (lv : List (Nat × Value)) (st : List Value), decode code pc = .ok (.arraylength, 1) → vx_V D vcl A H0 4 G h k n (pc + 1) lv (.int (nI L) :: st) → vx_V D vcl A H0 4 G h k n pc lv (.ref bs :: st)) ∧ (∀ (h : vx_h) (k n pc : Nat) (lv : List (Nat × Value)), k ≤ 600000 → n ≤ 7302250 → decode code pc = .ok (.ireturn, 1) → vx_V D vcl A H0 4 G h k n pc lv [.int 1])
/-- two ints as one long -/
def lgW (a b : Int32) : Int64 := (a.toInt64 <<< ((32 : Int32).toInt64 &&& 63)) ||| (b.toInt64 &&& 4294967295)
section
variable {l : Launch} {D : va_G} {tys : List (ClassId × FieldType)} {cJ cQ cZ cI : ClassId} {ad q : Nat → Nat} {h : vx_h} {X : Nat → Int} {C S : Nat} {A : Nat → Prop} {H0 : Heap} {G : vx_G} {k n i L bs : Nat} {xs : Nat → Int32} {P : Int32 × (Nat → Int)}
/-- the way on, behind a call -/
abbrev nxL (cJ cQ cZ cI : ClassId) (ad q : Nat → Nat) (D : va_G) (A : Nat → Prop) (H0 : Heap) (G : vx_G) (i bs : Nat) : Prop := ∀ (X' : Nat → Int) (h' : vx_h) (C' S' k' n' : Nat), JM cJ cQ cZ cI ad q X' X' h' C' S' → k' + C' ≤ 600000 → n' + S' ≤ 7302250 → vx_V D vcl A H0 4 G h' k' n' 1061 [(3, .int (nI i)), (2, .ref (q 0)), (1, .ref (ad 30)), (0, .ref bs)] []
theorem jM_put (J : JM cJ cQ cZ cI ad q X X h C S) (ht : tys[0]? = some (cJ, .long)) (ht1 : tys[1]? = some (cQ, .object "SignedMill$Whole")) (ht2 : tys[2]? = some (cZ, .boolean)) (ht3 : tys[3]? = some (cI, .int)) (r1 : Int32) (v : Int64) (eP : P = sp1 0 X (fun d => kp X d v.toInt) r1) : vx_M l D vcl tys my_M_put lw_gd (rm_ 6 C S 131) [.ref (ad 30), .int r1, .long v] h (jpost cJ cQ cZ cI ad q X P.2 C S P.1) := jm_M J (fun r0 W LY HM => by rw [eP]; exact cM_put LY HM ht ht1 ht2 r1 v)
theorem jR_put (J : JM cJ cQ cZ cI ad q X P.2 h C S) (ht : tys[0]? = some (cJ, .long)) (ht1 : tys[1]? = some (cQ, .object "SignedMill$Whole")) (ht2 : tys[2]? = some (cZ, .boolean)) (ht3 : tys[3]? = some (cI, .int)) (r1 : Int32) (v : Int64) (eP : P = sp1 0 X (fun d => kp X d v.toInt) r1) : vx_M l D vcl tys my_R_put lw_gd (rm_ 3 0 0 67) [.ref (q 0), .int r1, .long v] h (jpostR cJ cQ cZ cI ad q P.2 C S P.1) := jm_R J (fun h0 f g s V LR HP HX => by rw [eP]; exact cR_put LR ht2 ht3 HP HX r1 v)
set_option maxRecDepth 100000 in
set_option maxHeartbeats 8000000 in
theorem lc_put (IG : vx_I l D vcl tys room_1 "SignedMillLaw" bc_L_law 4 lw_gd false A H0 G) (SL : scR D A H0 G bs L xs) (J : JM cJ cQ cZ cI ad q X X h C S) (ht : tys[0]? = some (cJ, .long)) (ht1 : tys[1]? = some (cQ, .object "SignedMill$Whole")) (ht2 : tys[2]? = some (cZ, .boolean)) (ht3 : tys[3]? = some (cI, .int)) (hk : k + C ≤ 600000) (hn : n + S ≤ 7302250) (hi : i + 6 ≤ L) (NX : nxL cJ cQ cZ cI ad q D A H0 G i bs) : vx_V D vcl A H0 4 G h k n 132 [(3, .int (nI i)), (2, .ref (q 0)), (1, .ref (ad 30)), (0, .ref bs)] [] := by
  obtain ⟨fs, ho⟩ := jm_oM J
  obtain ⟨P, eP⟩ : ∃ P : Int32 × (Nat → Int), P = sp1 0 X (fun d => kp X d (lgW (xs (i + 2)) (xs (i + 3))).toInt) (xs (i + 1)) := ⟨_, rfl⟩
  refine vx_aload_n IG dc_L_law_132 rfl 2 rfl ?_
  refine vx_aload_n IG dc_L_law_133 rfl 3 rfl ?_
  refine vx_iload_n IG dc_L_law_134 rfl 0 rfl ?_
  refine vx_iconst (v := 1) IG dc_L_law_135 (by decide) ?_
  refine vx_iadd IG dc_L_law_136 ?_
  refine vx_topi (y := nI (i + 1)) (nI_add _ _) ?_
  refine SL.1 _ _ _ _ _ _ _ (by omega) dc_L_law_137 ?_
  refine vx_aload_n IG dc_L_law_138 rfl 3 rfl ?_
  refine vx_iload_n IG dc_L_law_139 rfl 0 rfl ?_
  refine vx_iconst (v := 2) IG dc_L_law_140 (by decide) ?_
  refine vx_iadd IG dc_L_law_141 ?_
  refine vx_topi (y := nI (i + 2)) (nI_add _ _) ?_
  refine SL.1 _ _ _ _ _ _ _ (by omega) dc_L_law_142 ?_
  refine vx_i2l (v := (xs (i + 2)).toInt64) IG dc_L_law_143 rfl ?_
  refine vx_bipush (v := 32) IG dc_L_law_144 (by decide) ?_
  refine vx_lshl (v := ((xs (i + 2)).toInt64 <<< ((32 : Int32).toInt64 &&& 63))) IG dc_L_law_146 rfl ?_
  refine vx_aload_n IG dc_L_law_147 rfl 3 rfl ?_
  refine vx_iload_n IG dc_L_law_148 rfl 0 rfl ?_
  refine vx_iconst (v := 3) IG dc_L_law_149 (by decide) ?_
  refine vx_iadd IG dc_L_law_150 ?_
  refine vx_topi (y := nI (i + 3)) (nI_add _ _) ?_
  refine SL.1 _ _ _ _ _ _ _ (by omega) dc_L_law_151 ?_
  refine vx_i2l (v := (xs (i + 3)).toInt64) IG dc_L_law_152 rfl ?_
  refine vx_ldc2 (v := 4294967295) IG wK_L_13 dc_L_law_153 ?_
  refine vx_land IG dc_L_law_156 ?_
  refine vx_lor IG dc_L_law_157 ?_
  refine vx_topl (y := lgW (xs (i + 2)) (xs (i + 3))) rfl ?_
  refine vx_callV (As := [.int (xs (i + 1)), .long (lgW (xs (i + 2)) (xs (i + 3)))]) (st := []) IG lw_good (jM_put J ht ht1 ht2 ht3 (xs (i + 1)) (lgW (xs (i + 2)) (xs (i + 3))) eP) ho rfl wC_M_put wL_L_15 wI_M_put wS_M_put wX_M 2 (by decide +kernel) rfl ⟨Nat.le_of_ble_eq_true rfl, Nat.le_of_ble_eq_true rfl⟩ ⟨(show k + C ≤ 600000 from hk), (show n + S ≤ 7302250 from hn)⟩ rfl (Nat.le_of_ble_eq_true rfl) dc_L_law_158 (fun v h k_ n_ hq => ?_)
  obtain ⟨rfl, C1, S1, J1, hk1, hn1⟩ := hq
  show vx_V _ _ _ _ _ _ _ _ _ 161 [(3, .int (nI i)), (2, .ref (q 0)), (1, .ref (ad 30)), (0, .ref bs)] [.int P.1]
  refine vx_aload_n IG dc_L_law_161 rfl 1 rfl ?_
  refine vx_aload_n IG dc_L_law_162 rfl 3 rfl ?_
  refine vx_iload_n IG dc_L_law_163 rfl 0 rfl ?_
  refine vx_iconst (v := 1) IG dc_L_law_164 (by decide) ?_
  refine vx_iadd IG dc_L_law_165 ?_
  refine vx_topi (y := nI (i + 1)) (nI_add _ _) ?_
  refine SL.1 _ _ _ _ _ _ _ (by omega) dc_L_law_166 ?_
  refine vx_aload_n IG dc_L_law_167 rfl 3 rfl ?_
  refine vx_iload_n IG dc_L_law_168 rfl 0 rfl ?_
  refine vx_iconst (v := 2) IG dc_L_law_169 (by decide) ?_
  refine vx_iadd IG dc_L_law_170 ?_
  refine vx_topi (y := nI (i + 2)) (nI_add _ _) ?_
  refine SL.1 _ _ _ _ _ _ _ (by omega) dc_L_law_171 ?_
  refine vx_i2l (v := (xs (i + 2)).toInt64) IG dc_L_law_172 rfl ?_
  refine vx_bipush (v := 32) IG dc_L_law_173 (by decide) ?_
  refine vx_lshl (v := ((xs (i + 2)).toInt64 <<< ((32 : Int32).toInt64 &&& 63))) IG dc_L_law_175 rfl ?_
  refine vx_aload_n IG dc_L_law_176 rfl 3 rfl ?_
  refine vx_iload_n IG dc_L_law_177 rfl 0 rfl ?_
  refine vx_iconst (v := 3) IG dc_L_law_178 (by decide) ?_
  refine vx_iadd IG dc_L_law_179 ?_
  refine vx_topi (y := nI (i + 3)) (nI_add _ _) ?_
  refine SL.1 _ _ _ _ _ _ _ (by omega) dc_L_law_180 ?_
  refine vx_i2l (v := (xs (i + 3)).toInt64) IG dc_L_law_181 rfl ?_
  refine vx_ldc2 (v := 4294967295) IG wK_L_13 dc_L_law_182 ?_
  refine vx_land IG dc_L_law_185 ?_
  refine vx_lor IG dc_L_law_186 ?_
  refine vx_topl (y := lgW (xs (i + 2)) (xs (i + 3))) rfl ?_
  refine vx_callV (As := [.int (xs (i + 1)), .long (lgW (xs (i + 2)) (xs (i + 3)))]) (st := [.int P.1]) IG lw_good (jR_put J1 ht ht1 ht2 ht3 (xs (i + 1)) (lgW (xs (i + 2)) (xs (i + 3))) eP) (jm_oR J1) rfl wC_R_put wL_L_19 wI_R_put wS_R_put wX_R 2 (by decide +kernel) rfl ⟨Nat.le_of_ble_eq_true rfl, Nat.le_of_ble_eq_true rfl⟩ ⟨(by show _ + 0 ≤ 600000; omega), (by show _ + 0 ≤ 7302250; omega)⟩ rfl (Nat.le_of_ble_eq_true rfl) dc_L_law_187 (fun v h k_ n_ hq => ?_)
  obtain ⟨rfl, rfl, rfl, J2⟩ := hq
  show vx_V _ _ _ _ _ _ _ _ _ 190 [(3, .int (nI i)), (2, .ref (q 0)), (1, .ref (ad 30)), (0, .ref bs)] [.int P.1, .int P.1]
  refine vx_icmp_eq (tgt := 1061) IG dc_L_law_190 (by decide) (fun _ => ?_) (fun c_ => absurd rfl c_)
  exact NX P.2 h C1 S1 _ _ J2 (by omega) (by omega)
theorem jM_push (J : JM cJ cQ cZ cI ad q X X h C S) (ht : tys[0]? = some (cJ, .long)) (ht1 : tys[1]? = some (cQ, .object "SignedMill$Whole")) (ht2 : tys[2]? = some (cZ, .boolean)) (ht3 : tys[3]? = some (cI, .int)) (r1 : Int32) {b : Nat} (hb : b < 18446744073709551616) (eP : P = sp1 0 X (fun d => kp X d (kz (sgI (X d)) ((X d).natAbs * 2 ^ 64 + b))) r1) : vx_M l D vcl tys my_M_push lw_gd (rm_ 6 C S 131) [.ref (ad 30), .int r1, .long (lN b)] h (jpost cJ cQ cZ cI ad q X P.2 C S P.1) := jm_M J (fun r0 W LY HM => by rw [eP]; exact cM_push LY HM ht ht1 ht2 r1 hb)
theorem jR_push (J : JM cJ cQ cZ cI ad q X P.2 h C S) (ht : tys[0]? = some (cJ, .long)) (ht1 : tys[1]? = some (cQ, .object "SignedMill$Whole")) (ht2 : tys[2]? = some (cZ, .boolean)) (ht3 : tys[3]? = some (cI, .int)) (r1 : Int32) {b : Nat} (hb : b < 18446744073709551616) (eP : P = sp1 0 X (fun d => kp X d (kz (sgI (X d)) ((X d).natAbs * 2 ^ 64 + b))) r1) : vx_M l D vcl tys my_R_push lw_gd (rm_ 3 0 0 67) [.ref (q 0), .int r1, .long (lN b)] h (jpostR cJ cQ cZ cI ad q P.2 C S P.1) := jm_R J (fun h0 f g s V LR HP HX => by rw [eP]; exact cR_push LR ht2 ht3 HP HX r1 hb)
set_option maxRecDepth 100000 in
set_option maxHeartbeats 8000000 in
theorem lc_push (IG : vx_I l D vcl tys room_1 "SignedMillLaw" bc_L_law 4 lw_gd false A H0 G) (SL : scR D A H0 G bs L xs) (J : JM cJ cQ cZ cI ad q X X h C S) (ht : tys[0]? = some (cJ, .long)) (ht1 : tys[1]? = some (cQ, .object "SignedMill$Whole")) (ht2 : tys[2]? = some (cZ, .boolean)) (ht3 : tys[3]? = some (cI, .int)) (hk : k + C ≤ 600000) (hn : n + S ≤ 7302250) (hi : i + 6 ≤ L) (NX : nxL cJ cQ cZ cI ad q D A H0 G i bs) : vx_V D vcl A H0 4 G h k n 195 [(3, .int (nI i)), (2, .ref (q 0)), (1, .ref (ad 30)), (0, .ref bs)] [] := by
  obtain ⟨fs, ho⟩ := jm_oM J
  obtain ⟨b, hb, eb⟩ := wb_of (lgW (xs (i + 2)) (xs (i + 3)))
  obtain ⟨P, eP⟩ : ∃ P : Int32 × (Nat → Int), P = sp1 0 X (fun d => kp X d (kz (sgI (X d)) ((X d).natAbs * 2 ^ 64 + b))) (xs (i + 1)) := ⟨_, rfl⟩
  refine vx_aload_n IG dc_L_law_195 rfl 2 rfl ?_
  refine vx_aload_n IG dc_L_law_196 rfl 3 rfl ?_
  refine vx_iload_n IG dc_L_law_197 rfl 0 rfl ?_
  refine vx_iconst (v := 1) IG dc_L_law_198 (by decide) ?_
  refine vx_iadd IG dc_L_law_199 ?_
  refine vx_topi (y := nI (i + 1)) (nI_add _ _) ?_
  refine SL.1 _ _ _ _ _ _ _ (by omega) dc_L_law_200 ?_
  refine vx_aload_n IG dc_L_law_201 rfl 3 rfl ?_
  refine vx_iload_n IG dc_L_law_202 rfl 0 rfl ?_
  refine vx_iconst (v := 2) IG dc_L_law_203 (by decide) ?_
  refine vx_iadd IG dc_L_law_204 ?_
  refine vx_topi (y := nI (i + 2)) (nI_add _ _) ?_
  refine SL.1 _ _ _ _ _ _ _ (by omega) dc_L_law_205 ?_
  refine vx_i2l (v := (xs (i + 2)).toInt64) IG dc_L_law_206 rfl ?_
  refine vx_bipush (v := 32) IG dc_L_law_207 (by decide) ?_
  refine vx_lshl (v := ((xs (i + 2)).toInt64 <<< ((32 : Int32).toInt64 &&& 63))) IG dc_L_law_209 rfl ?_
  refine vx_aload_n IG dc_L_law_210 rfl 3 rfl ?_
  refine vx_iload_n IG dc_L_law_211 rfl 0 rfl ?_
  refine vx_iconst (v := 3) IG dc_L_law_212 (by decide) ?_
  refine vx_iadd IG dc_L_law_213 ?_
  refine vx_topi (y := nI (i + 3)) (nI_add _ _) ?_
  refine SL.1 _ _ _ _ _ _ _ (by omega) dc_L_law_214 ?_
  refine vx_i2l (v := (xs (i + 3)).toInt64) IG dc_L_law_215 rfl ?_
  refine vx_ldc2 (v := 4294967295) IG wK_L_13 dc_L_law_216 ?_
  refine vx_land IG dc_L_law_219 ?_
  refine vx_lor IG dc_L_law_220 ?_
  refine vx_topl (y := lgW (xs (i + 2)) (xs (i + 3))) rfl ?_
  refine vx_topl (y := lN b) eb ?_
  refine vx_callV (As := [.int (xs (i + 1)), .long (lN b)]) (st := []) IG lw_good (jM_push J ht ht1 ht2 ht3 (xs (i + 1)) hb eP) ho rfl wC_M_push wL_L_20 wI_M_push wS_M_push wX_M 2 (by decide +kernel) rfl ⟨Nat.le_of_ble_eq_true rfl, Nat.le_of_ble_eq_true rfl⟩ ⟨(show k + C ≤ 600000 from hk), (show n + S ≤ 7302250 from hn)⟩ rfl (Nat.le_of_ble_eq_true rfl) dc_L_law_221 (fun v h k_ n_ hq => ?_)
  obtain ⟨rfl, C1, S1, J1, hk1, hn1⟩ := hq
  show vx_V _ _ _ _ _ _ _ _ _ 224 [(3, .int (nI i)), (2, .ref (q 0)), (1, .ref (ad 30)), (0, .ref bs)] [.int P.1]
  refine vx_aload_n IG dc_L_law_224 rfl 1 rfl ?_
  refine vx_aload_n IG dc_L_law_225 rfl 3 rfl ?_
  refine vx_iload_n IG dc_L_law_226 rfl 0 rfl ?_
  refine vx_iconst (v := 1) IG dc_L_law_227 (by decide) ?_
  refine vx_iadd IG dc_L_law_228 ?_
  refine vx_topi (y := nI (i + 1)) (nI_add _ _) ?_
  refine SL.1 _ _ _ _ _ _ _ (by omega) dc_L_law_229 ?_
  refine vx_aload_n IG dc_L_law_230 rfl 3 rfl ?_
  refine vx_iload_n IG dc_L_law_231 rfl 0 rfl ?_
  refine vx_iconst (v := 2) IG dc_L_law_232 (by decide) ?_
  refine vx_iadd IG dc_L_law_233 ?_
  refine vx_topi (y := nI (i + 2)) (nI_add _ _) ?_
  refine SL.1 _ _ _ _ _ _ _ (by omega) dc_L_law_234 ?_
  refine vx_i2l (v := (xs (i + 2)).toInt64) IG dc_L_law_235 rfl ?_
  refine vx_bipush (v := 32) IG dc_L_law_236 (by decide) ?_
  refine vx_lshl (v := ((xs (i + 2)).toInt64 <<< ((32 : Int32).toInt64 &&& 63))) IG dc_L_law_238 rfl ?_
  refine vx_aload_n IG dc_L_law_239 rfl 3 rfl ?_
  refine vx_iload_n IG dc_L_law_240 rfl 0 rfl ?_
  refine vx_iconst (v := 3) IG dc_L_law_241 (by decide) ?_
  refine vx_iadd IG dc_L_law_242 ?_
  refine vx_topi (y := nI (i + 3)) (nI_add _ _) ?_
  refine SL.1 _ _ _ _ _ _ _ (by omega) dc_L_law_243 ?_
  refine vx_i2l (v := (xs (i + 3)).toInt64) IG dc_L_law_244 rfl ?_
  refine vx_ldc2 (v := 4294967295) IG wK_L_13 dc_L_law_245 ?_
  refine vx_land IG dc_L_law_248 ?_
  refine vx_lor IG dc_L_law_249 ?_
  refine vx_topl (y := lgW (xs (i + 2)) (xs (i + 3))) rfl ?_
  refine vx_topl (y := lN b) eb ?_
  refine vx_callV (As := [.int (xs (i + 1)), .long (lN b)]) (st := [.int P.1]) IG lw_good (jR_push J1 ht ht1 ht2 ht3 (xs (i + 1)) hb eP) (jm_oR J1) rfl wC_R_push wL_L_23 wI_R_push wS_R_push wX_R 2 (by decide +kernel) rfl ⟨Nat.le_of_ble_eq_true rfl, Nat.le_of_ble_eq_true rfl⟩ ⟨(by show _ + 0 ≤ 600000; omega), (by show _ + 0 ≤ 7302250; omega)⟩ rfl (Nat.le_of_ble_eq_true rfl) dc_L_law_250 (fun v h k_ n_ hq => ?_)
  obtain ⟨rfl, rfl, rfl, J2⟩ := hq
  show vx_V _ _ _ _ _ _ _ _ _ 253 [(3, .int (nI i)), (2, .ref (q 0)), (1, .ref (ad 30)), (0, .ref bs)] [.int P.1, .int P.1]
  refine vx_icmp_eq (tgt := 1061) IG dc_L_law_253 (by decide) (fun _ => ?_) (fun c_ => absurd rfl c_)
  exact NX P.2 h C1 S1 _ _ J2 (by omega) (by omega)
theorem jM_spread (J : JM cJ cQ cZ cI ad q X X h C S) (ht : tys[0]? = some (cJ, .long)) (ht1 : tys[1]? = some (cQ, .object "SignedMill$Whole")) (ht2 : tys[2]? = some (cZ, .boolean)) (ht3 : tys[3]? = some (cI, .int)) (r1 : Int32) {b : Nat} (hb : b < 18446744073709551616) (n : Int32) (eP : P = sp1 0 X (fun d => if 0 ≤ n.toInt ∧ n.toInt ≤ 1024 then kp X d (vl 18446744073709551616 (fun _ => b) n.toNatClampNeg : Nat) else (0, X)) r1) : vx_M l D vcl tys my_M_spread lw_gd (rm_ 6 C S 131) [.ref (ad 30), .int r1, .long (lN b), .int n] h (jpost cJ cQ cZ cI ad q X P.2 C S P.1) := jm_M J (fun r0 W LY HM => by rw [eP]; exact cM_spread LY HM ht ht1 ht2 r1 hb n)
theorem jR_spread (J : JM cJ cQ cZ cI ad q X P.2 h C S) (ht : tys[0]? = some (cJ, .long)) (ht1 : tys[1]? = some (cQ, .object "SignedMill$Whole")) (ht2 : tys[2]? = some (cZ, .boolean)) (ht3 : tys[3]? = some (cI, .int)) (r1 : Int32) {b : Nat} (hb : b < 18446744073709551616) (p : Int32) (eP : P = sp1 0 X (fun d => if 0 ≤ p.toInt ∧ p.toInt ≤ 1024 then kp X d (vl 18446744073709551616 (fun _ => b) p.toNatClampNeg : Nat) else (0, X)) r1) : vx_M l D vcl tys my_R_spread lw_gd (rm_ 3 0 0 66) [.ref (q 0), .int r1, .long (lN b), .int p] h (jpostR cJ cQ cZ cI ad q P.2 C S P.1) := jm_R J (fun h0 f g s V LR HP HX => by rw [eP]; exact cR_spread LR ht2 ht3 HP HX r1 hb p)
set_option maxRecDepth 100000 in
set_option maxHeartbeats 8000000 in
theorem lc_spread (IG : vx_I l D vcl tys room_1 "SignedMillLaw" bc_L_law 4 lw_gd false A H0 G) (SL : scR D A H0 G bs L xs) (J : JM cJ cQ cZ cI ad q X X h C S) (ht : tys[0]? = some (cJ, .long)) (ht1 : tys[1]? = some (cQ, .object "SignedMill$Whole")) (ht2 : tys[2]? = some (cZ, .boolean)) (ht3 : tys[3]? = some (cI, .int)) (hk : k + C ≤ 600000) (hn : n + S ≤ 7302250) (hi : i + 6 ≤ L) (NX : nxL cJ cQ cZ cI ad q D A H0 G i bs) : vx_V D vcl A H0 4 G h k n 258 [(3, .int (nI i)), (2, .ref (q 0)), (1, .ref (ad 30)), (0, .ref bs)] [] := by
  obtain ⟨fs, ho⟩ := jm_oM J
  obtain ⟨b, hb, eb⟩ := wb_of (lgW (xs (i + 2)) (xs (i + 3)))
  obtain ⟨P, eP⟩ : ∃ P : Int32 × (Nat → Int), P = sp1 0 X (fun d => if 0 ≤ (xs (i + 4)).toInt ∧ (xs (i + 4)).toInt ≤ 1024 then kp X d (vl 18446744073709551616 (fun _ => b) (xs (i + 4)).toNatClampNeg : Nat) else (0, X)) (xs (i + 1)) := ⟨_, rfl⟩
  refine vx_aload_n IG dc_L_law_258 rfl 2 rfl ?_
  refine vx_aload_n IG dc_L_law_259 rfl 3 rfl ?_
  refine vx_iload_n IG dc_L_law_260 rfl 0 rfl ?_
  refine vx_iconst (v := 1) IG dc_L_law_261 (by decide) ?_
  refine vx_iadd IG dc_L_law_262 ?_
  refine vx_topi (y := nI (i + 1)) (nI_add _ _) ?_
  refine SL.1 _ _ _ _ _ _ _ (by omega) dc_L_law_263 ?_
  refine vx_aload_n IG dc_L_law_264 rfl 3 rfl ?_
  refine vx_iload_n IG dc_L_law_265 rfl 0 rfl ?_
  refine vx_iconst (v := 2) IG dc_L_law_266 (by decide) ?_
  refine vx_iadd IG dc_L_law_267 ?_
  refine vx_topi (y := nI (i + 2)) (nI_add _ _) ?_
  refine SL.1 _ _ _ _ _ _ _ (by omega) dc_L_law_268 ?_
  refine vx_i2l (v := (xs (i + 2)).toInt64) IG dc_L_law_269 rfl ?_
  refine vx_bipush (v := 32) IG dc_L_law_270 (by decide) ?_
  refine vx_lshl (v := ((xs (i + 2)).toInt64 <<< ((32 : Int32).toInt64 &&& 63))) IG dc_L_law_272 rfl ?_
  refine vx_aload_n IG dc_L_law_273 rfl 3 rfl ?_
  refine vx_iload_n IG dc_L_law_274 rfl 0 rfl ?_
  refine vx_iconst (v := 3) IG dc_L_law_275 (by decide) ?_
  refine vx_iadd IG dc_L_law_276 ?_
  refine vx_topi (y := nI (i + 3)) (nI_add _ _) ?_
  refine SL.1 _ _ _ _ _ _ _ (by omega) dc_L_law_277 ?_
  refine vx_i2l (v := (xs (i + 3)).toInt64) IG dc_L_law_278 rfl ?_
  refine vx_ldc2 (v := 4294967295) IG wK_L_13 dc_L_law_279 ?_
  refine vx_land IG dc_L_law_282 ?_
  refine vx_lor IG dc_L_law_283 ?_
  refine vx_topl (y := lgW (xs (i + 2)) (xs (i + 3))) rfl ?_
  refine vx_topl (y := lN b) eb ?_
  refine vx_aload_n IG dc_L_law_284 rfl 3 rfl ?_
  refine vx_iload_n IG dc_L_law_285 rfl 0 rfl ?_
  refine vx_iconst (v := 4) IG dc_L_law_286 (by decide) ?_
  refine vx_iadd IG dc_L_law_287 ?_
  refine vx_topi (y := nI (i + 4)) (nI_add _ _) ?_
  refine SL.1 _ _ _ _ _ _ _ (by omega) dc_L_law_288 ?_
  refine vx_callV (As := [.int (xs (i + 1)), .long (lN b), .int (xs (i + 4))]) (st := []) IG lw_good (jM_spread J ht ht1 ht2 ht3 (xs (i + 1)) hb (xs (i + 4)) eP) ho rfl wC_M_spread wL_L_24 wI_M_spread wS_M_spread wX_M 3 (by decide +kernel) rfl ⟨Nat.le_of_ble_eq_true rfl, Nat.le_of_ble_eq_true rfl⟩ ⟨(show k + C ≤ 600000 from hk), (show n + S ≤ 7302250 from hn)⟩ rfl (Nat.le_of_ble_eq_true rfl) dc_L_law_289 (fun v h k_ n_ hq => ?_)
  obtain ⟨rfl, C1, S1, J1, hk1, hn1⟩ := hq
  show vx_V _ _ _ _ _ _ _ _ _ 292 [(3, .int (nI i)), (2, .ref (q 0)), (1, .ref (ad 30)), (0, .ref bs)] [.int P.1]
  refine vx_aload_n IG dc_L_law_292 rfl 1 rfl ?_
  refine vx_aload_n IG dc_L_law_293 rfl 3 rfl ?_
  refine vx_iload_n IG dc_L_law_294 rfl 0 rfl ?_
  refine vx_iconst (v := 1) IG dc_L_law_295 (by decide) ?_
  refine vx_iadd IG dc_L_law_296 ?_
  refine vx_topi (y := nI (i + 1)) (nI_add _ _) ?_
  refine SL.1 _ _ _ _ _ _ _ (by omega) dc_L_law_297 ?_
  refine vx_aload_n IG dc_L_law_298 rfl 3 rfl ?_
  refine vx_iload_n IG dc_L_law_299 rfl 0 rfl ?_
  refine vx_iconst (v := 2) IG dc_L_law_300 (by decide) ?_
  refine vx_iadd IG dc_L_law_301 ?_
  refine vx_topi (y := nI (i + 2)) (nI_add _ _) ?_
  refine SL.1 _ _ _ _ _ _ _ (by omega) dc_L_law_302 ?_
  refine vx_i2l (v := (xs (i + 2)).toInt64) IG dc_L_law_303 rfl ?_
  refine vx_bipush (v := 32) IG dc_L_law_304 (by decide) ?_
  refine vx_lshl (v := ((xs (i + 2)).toInt64 <<< ((32 : Int32).toInt64 &&& 63))) IG dc_L_law_306 rfl ?_
  refine vx_aload_n IG dc_L_law_307 rfl 3 rfl ?_
  refine vx_iload_n IG dc_L_law_308 rfl 0 rfl ?_
  refine vx_iconst (v := 3) IG dc_L_law_309 (by decide) ?_
  refine vx_iadd IG dc_L_law_310 ?_
  refine vx_topi (y := nI (i + 3)) (nI_add _ _) ?_
  refine SL.1 _ _ _ _ _ _ _ (by omega) dc_L_law_311 ?_
  refine vx_i2l (v := (xs (i + 3)).toInt64) IG dc_L_law_312 rfl ?_
  refine vx_ldc2 (v := 4294967295) IG wK_L_13 dc_L_law_313 ?_
  refine vx_land IG dc_L_law_316 ?_
  refine vx_lor IG dc_L_law_317 ?_
  refine vx_topl (y := lgW (xs (i + 2)) (xs (i + 3))) rfl ?_
  refine vx_topl (y := lN b) eb ?_
  refine vx_aload_n IG dc_L_law_318 rfl 3 rfl ?_
  refine vx_iload_n IG dc_L_law_319 rfl 0 rfl ?_
  refine vx_iconst (v := 4) IG dc_L_law_320 (by decide) ?_
  refine vx_iadd IG dc_L_law_321 ?_
  refine vx_topi (y := nI (i + 4)) (nI_add _ _) ?_
  refine SL.1 _ _ _ _ _ _ _ (by omega) dc_L_law_322 ?_
  refine vx_callV (As := [.int (xs (i + 1)), .long (lN b), .int (xs (i + 4))]) (st := [.int P.1]) IG lw_good (jR_spread J1 ht ht1 ht2 ht3 (xs (i + 1)) hb (xs (i + 4)) eP) (jm_oR J1) rfl wC_R_spread wL_L_28 wI_R_spread wS_R_spread wX_R 3 (by decide +kernel) rfl ⟨Nat.le_of_ble_eq_true rfl, Nat.le_of_ble_eq_true rfl⟩ ⟨(by show _ + 0 ≤ 600000; omega), (by show _ + 0 ≤ 7302250; omega)⟩ rfl (Nat.le_of_ble_eq_true rfl) dc_L_law_323 (fun v h k_ n_ hq => ?_)
  obtain ⟨rfl, rfl, rfl, J2⟩ := hq
  show vx_V _ _ _ _ _ _ _ _ _ 326 [(3, .int (nI i)), (2, .ref (q 0)), (1, .ref (ad 30)), (0, .ref bs)] [.int P.1, .int P.1]
  refine vx_icmp_eq (tgt := 1061) IG dc_L_law_326 (by decide) (fun _ => ?_) (fun c_ => absurd rfl c_)
  exact NX P.2 h C1 S1 _ _ J2 (by omega) (by omega)
theorem jM_negate (J : JM cJ cQ cZ cI ad q X X h C S) (ht : tys[0]? = some (cJ, .long)) (ht1 : tys[1]? = some (cQ, .object "SignedMill$Whole")) (ht2 : tys[2]? = some (cZ, .boolean)) (ht3 : tys[3]? = some (cI, .int)) (r1 r2 : Int32) (eP : P = sp2 0 X (fun d a => kp X d (-X a)) r1 r2) : vx_M l D vcl tys my_M_negate lw_gd (rm_ 6 C S 131) [.ref (ad 30), .int r1, .int r2] h (jpost cJ cQ cZ cI ad q X P.2 C S P.1) := jm_M J (fun r0 W LY HM => by rw [eP]; exact cM_negate LY HM ht ht1 ht2 r1 r2)
theorem jR_negate (J : JM cJ cQ cZ cI ad q X P.2 h C S) (ht : tys[0]? = some (cJ, .long)) (ht1 : tys[1]? = some (cQ, .object "SignedMill$Whole")) (ht2 : tys[2]? = some (cZ, .boolean)) (ht3 : tys[3]? = some (cI, .int)) (r1 r2 : Int32) (eP : P = sp2 0 X (fun d a => kp X d (-X a)) r1 r2) : vx_M l D vcl tys my_R_negate lw_gd (rm_ 3 0 0 66) [.ref (q 0), .int r1, .int r2] h (jpostR cJ cQ cZ cI ad q P.2 C S P.1) := jm_R J (fun h0 f g s V LR HP HX => by rw [eP]; exact cR_negate LR ht2 ht3 HP HX r1 r2)
set_option maxRecDepth 100000 in
set_option maxHeartbeats 8000000 in
theorem lc_negate (IG : vx_I l D vcl tys room_1 "SignedMillLaw" bc_L_law 4 lw_gd false A H0 G) (SL : scR D A H0 G bs L xs) (J : JM cJ cQ cZ cI ad q X X h C S) (ht : tys[0]? = some (cJ, .long)) (ht1 : tys[1]? = some (cQ, .object "SignedMill$Whole")) (ht2 : tys[2]? = some (cZ, .boolean)) (ht3 : tys[3]? = some (cI, .int)) (hk : k + C ≤ 600000) (hn : n + S ≤ 7302250) (hi : i + 6 ≤ L) (NX : nxL cJ cQ cZ cI ad q D A H0 G i bs) : vx_V D vcl A H0 4 G h k n 331 [(3, .int (nI i)), (2, .ref (q 0)), (1, .ref (ad 30)), (0, .ref bs)] [] := by
  obtain ⟨fs, ho⟩ := jm_oM J
  obtain ⟨P, eP⟩ : ∃ P : Int32 × (Nat → Int), P = sp2 0 X (fun d a => kp X d (-X a)) (xs (i + 1)) (xs (i + 2)) := ⟨_, rfl⟩
  refine vx_aload_n IG dc_L_law_331 rfl 2 rfl ?_
  refine vx_aload_n IG dc_L_law_332 rfl 3 rfl ?_
  refine vx_iload_n IG dc_L_law_333 rfl 0 rfl ?_
  refine vx_iconst (v := 1) IG dc_L_law_334 (by decide) ?_
  refine vx_iadd IG dc_L_law_335 ?_
  refine vx_topi (y := nI (i + 1)) (nI_add _ _) ?_
  refine SL.1 _ _ _ _ _ _ _ (by omega) dc_L_law_336 ?_
  refine vx_aload_n IG dc_L_law_337 rfl 3 rfl ?_
  refine vx_iload_n IG dc_L_law_338 rfl 0 rfl ?_
  refine vx_iconst (v := 2) IG dc_L_law_339 (by decide) ?_
  refine vx_iadd IG dc_L_law_340 ?_
  refine vx_topi (y := nI (i + 2)) (nI_add _ _) ?_
  refine SL.1 _ _ _ _ _ _ _ (by omega) dc_L_law_341 ?_
  refine vx_callV (As := [.int (xs (i + 1)), .int (xs (i + 2))]) (st := []) IG lw_good (jM_negate J ht ht1 ht2 ht3 (xs (i + 1)) (xs (i + 2)) eP) ho rfl wC_M_negate wL_L_29 wI_M_negate wS_M_negate wX_M 2 (by decide +kernel) rfl ⟨Nat.le_of_ble_eq_true rfl, Nat.le_of_ble_eq_true rfl⟩ ⟨(show k + C ≤ 600000 from hk), (show n + S ≤ 7302250 from hn)⟩ rfl (Nat.le_of_ble_eq_true rfl) dc_L_law_342 (fun v h k_ n_ hq => ?_)
  obtain ⟨rfl, C1, S1, J1, hk1, hn1⟩ := hq
  show vx_V _ _ _ _ _ _ _ _ _ 345 [(3, .int (nI i)), (2, .ref (q 0)), (1, .ref (ad 30)), (0, .ref bs)] [.int P.1]
  refine vx_aload_n IG dc_L_law_345 rfl 1 rfl ?_
  refine vx_aload_n IG dc_L_law_346 rfl 3 rfl ?_
  refine vx_iload_n IG dc_L_law_347 rfl 0 rfl ?_
  refine vx_iconst (v := 1) IG dc_L_law_348 (by decide) ?_
  refine vx_iadd IG dc_L_law_349 ?_
  refine vx_topi (y := nI (i + 1)) (nI_add _ _) ?_
  refine SL.1 _ _ _ _ _ _ _ (by omega) dc_L_law_350 ?_
  refine vx_aload_n IG dc_L_law_351 rfl 3 rfl ?_
  refine vx_iload_n IG dc_L_law_352 rfl 0 rfl ?_
  refine vx_iconst (v := 2) IG dc_L_law_353 (by decide) ?_
  refine vx_iadd IG dc_L_law_354 ?_
  refine vx_topi (y := nI (i + 2)) (nI_add _ _) ?_
  refine SL.1 _ _ _ _ _ _ _ (by omega) dc_L_law_355 ?_
  refine vx_callV (As := [.int (xs (i + 1)), .int (xs (i + 2))]) (st := [.int P.1]) IG lw_good (jR_negate J1 ht ht1 ht2 ht3 (xs (i + 1)) (xs (i + 2)) eP) (jm_oR J1) rfl wC_R_negate wL_L_33 wI_R_negate wS_R_negate wX_R 2 (by decide +kernel) rfl ⟨Nat.le_of_ble_eq_true rfl, Nat.le_of_ble_eq_true rfl⟩ ⟨(by show _ + 0 ≤ 600000; omega), (by show _ + 0 ≤ 7302250; omega)⟩ rfl (Nat.le_of_ble_eq_true rfl) dc_L_law_356 (fun v h k_ n_ hq => ?_)
  obtain ⟨rfl, rfl, rfl, J2⟩ := hq
  show vx_V _ _ _ _ _ _ _ _ _ 359 [(3, .int (nI i)), (2, .ref (q 0)), (1, .ref (ad 30)), (0, .ref bs)] [.int P.1, .int P.1]
  refine vx_icmp_eq (tgt := 1061) IG dc_L_law_359 (by decide) (fun _ => ?_) (fun c_ => absurd rfl c_)
  exact NX P.2 h C1 S1 _ _ J2 (by omega) (by omega)
theorem jM_add (J : JM cJ cQ cZ cI ad q X X h C S) (ht : tys[0]? = some (cJ, .long)) (ht1 : tys[1]? = some (cQ, .object "SignedMill$Whole")) (ht2 : tys[2]? = some (cZ, .boolean)) (ht3 : tys[3]? = some (cI, .int)) (r1 r2 r3 : Int32) (eP : P = sp3 0 X (fun d a b => kp X d (X a + X b)) r1 r2 r3) : vx_M l D vcl tys my_M_add lw_gd (rm_ 7 C S 155) [.ref (ad 30), .int r1, .int r2, .int r3] h (jpost cJ cQ cZ cI ad q X P.2 C S P.1) := jm_M J (fun r0 W LY HM => by rw [eP]; exact cM_add LY HM ht ht1 ht2 r1 r2 r3)
theorem jR_add (J : JM cJ cQ cZ cI ad q X P.2 h C S) (ht : tys[0]? = some (cJ, .long)) (ht1 : tys[1]? = some (cQ, .object "SignedMill$Whole")) (ht2 : tys[2]? = some (cZ, .boolean)) (ht3 : tys[3]? = some (cI, .int)) (r1 r2 r3 : Int32) (eP : P = sp3 0 X (fun d a b => kp X d (X a + X b)) r1 r2 r3) : vx_M l D vcl tys my_R_add lw_gd (rm_ 4 0 0 96) [.ref (q 0), .int r1, .int r2, .int r3] h (jpostR cJ cQ cZ cI ad q P.2 C S P.1) := jm_R J (fun h0 f g s V LR HP HX => by rw [eP]; exact cR_add LR ht2 ht3 HP HX r1 r2 r3)
set_option maxRecDepth 100000 in
set_option maxHeartbeats 8000000 in
theorem lc_add (IG : vx_I l D vcl tys room_1 "SignedMillLaw" bc_L_law 4 lw_gd false A H0 G) (SL : scR D A H0 G bs L xs) (J : JM cJ cQ cZ cI ad q X X h C S) (ht : tys[0]? = some (cJ, .long)) (ht1 : tys[1]? = some (cQ, .object "SignedMill$Whole")) (ht2 : tys[2]? = some (cZ, .boolean)) (ht3 : tys[3]? = some (cI, .int)) (hk : k + C ≤ 600000) (hn : n + S ≤ 7302250) (hi : i + 6 ≤ L) (NX : nxL cJ cQ cZ cI ad q D A H0 G i bs) : vx_V D vcl A H0 4 G h k n 364 [(3, .int (nI i)), (2, .ref (q 0)), (1, .ref (ad 30)), (0, .ref bs)] [] := by
  obtain ⟨fs, ho⟩ := jm_oM J
  obtain ⟨P, eP⟩ : ∃ P : Int32 × (Nat → Int), P = sp3 0 X (fun d a b => kp X d (X a + X b)) (xs (i + 1)) (xs (i + 2)) (xs (i + 3)) := ⟨_, rfl⟩
  refine vx_aload_n IG dc_L_law_364 rfl 2 rfl ?_
  refine vx_aload_n IG dc_L_law_365 rfl 3 rfl ?_
  refine vx_iload_n IG dc_L_law_366 rfl 0 rfl ?_
  refine vx_iconst (v := 1) IG dc_L_law_367 (by decide) ?_
  refine vx_iadd IG dc_L_law_368 ?_
  refine vx_topi (y := nI (i + 1)) (nI_add _ _) ?_
  refine SL.1 _ _ _ _ _ _ _ (by omega) dc_L_law_369 ?_
  refine vx_aload_n IG dc_L_law_370 rfl 3 rfl ?_
  refine vx_iload_n IG dc_L_law_371 rfl 0 rfl ?_
  refine vx_iconst (v := 2) IG dc_L_law_372 (by decide) ?_
  refine vx_iadd IG dc_L_law_373 ?_
  refine vx_topi (y := nI (i + 2)) (nI_add _ _) ?_
  refine SL.1 _ _ _ _ _ _ _ (by omega) dc_L_law_374 ?_
  refine vx_aload_n IG dc_L_law_375 rfl 3 rfl ?_
  refine vx_iload_n IG dc_L_law_376 rfl 0 rfl ?_
  refine vx_iconst (v := 3) IG dc_L_law_377 (by decide) ?_
  refine vx_iadd IG dc_L_law_378 ?_
  refine vx_topi (y := nI (i + 3)) (nI_add _ _) ?_
  refine SL.1 _ _ _ _ _ _ _ (by omega) dc_L_law_379 ?_
  refine vx_callV (As := [.int (xs (i + 1)), .int (xs (i + 2)), .int (xs (i + 3))]) (st := []) IG lw_good (jM_add J ht ht1 ht2 ht3 (xs (i + 1)) (xs (i + 2)) (xs (i + 3)) eP) ho rfl wC_M_add wL_L_34 wI_M_add wS_M_add wX_M 3 (by decide +kernel) rfl ⟨Nat.le_of_ble_eq_true rfl, Nat.le_of_ble_eq_true rfl⟩ ⟨(show k + C ≤ 600000 from hk), (show n + S ≤ 7302250 from hn)⟩ rfl (Nat.le_of_ble_eq_true rfl) dc_L_law_380 (fun v h k_ n_ hq => ?_)
  obtain ⟨rfl, C1, S1, J1, hk1, hn1⟩ := hq
  show vx_V _ _ _ _ _ _ _ _ _ 383 [(3, .int (nI i)), (2, .ref (q 0)), (1, .ref (ad 30)), (0, .ref bs)] [.int P.1]
  refine vx_aload_n IG dc_L_law_383 rfl 1 rfl ?_
  refine vx_aload_n IG dc_L_law_384 rfl 3 rfl ?_
  refine vx_iload_n IG dc_L_law_385 rfl 0 rfl ?_
  refine vx_iconst (v := 1) IG dc_L_law_386 (by decide) ?_
  refine vx_iadd IG dc_L_law_387 ?_
  refine vx_topi (y := nI (i + 1)) (nI_add _ _) ?_
  refine SL.1 _ _ _ _ _ _ _ (by omega) dc_L_law_388 ?_
  refine vx_aload_n IG dc_L_law_389 rfl 3 rfl ?_
  refine vx_iload_n IG dc_L_law_390 rfl 0 rfl ?_
  refine vx_iconst (v := 2) IG dc_L_law_391 (by decide) ?_
  refine vx_iadd IG dc_L_law_392 ?_
  refine vx_topi (y := nI (i + 2)) (nI_add _ _) ?_
  refine SL.1 _ _ _ _ _ _ _ (by omega) dc_L_law_393 ?_
  refine vx_aload_n IG dc_L_law_394 rfl 3 rfl ?_
  refine vx_iload_n IG dc_L_law_395 rfl 0 rfl ?_
  refine vx_iconst (v := 3) IG dc_L_law_396 (by decide) ?_
  refine vx_iadd IG dc_L_law_397 ?_
  refine vx_topi (y := nI (i + 3)) (nI_add _ _) ?_
  refine SL.1 _ _ _ _ _ _ _ (by omega) dc_L_law_398 ?_
  refine vx_callV (As := [.int (xs (i + 1)), .int (xs (i + 2)), .int (xs (i + 3))]) (st := [.int P.1]) IG lw_good (jR_add J1 ht ht1 ht2 ht3 (xs (i + 1)) (xs (i + 2)) (xs (i + 3)) eP) (jm_oR J1) rfl wC_R_add wL_L_38 wI_R_add wS_R_add wX_R 3 (by decide +kernel) rfl ⟨Nat.le_of_ble_eq_true rfl, Nat.le_of_ble_eq_true rfl⟩ ⟨(by show _ + 0 ≤ 600000; omega), (by show _ + 0 ≤ 7302250; omega)⟩ rfl (Nat.le_of_ble_eq_true rfl) dc_L_law_399 (fun v h k_ n_ hq => ?_)
  obtain ⟨rfl, rfl, rfl, J2⟩ := hq
  show vx_V _ _ _ _ _ _ _ _ _ 402 [(3, .int (nI i)), (2, .ref (q 0)), (1, .ref (ad 30)), (0, .ref bs)] [.int P.1, .int P.1]
  refine vx_icmp_eq (tgt := 1061) IG dc_L_law_402 (by decide) (fun _ => ?_) (fun c_ => absurd rfl c_)
  exact NX P.2 h C1 S1 _ _ J2 (by omega) (by omega)
theorem jM_take (J : JM cJ cQ cZ cI ad q X X h C S) (ht : tys[0]? = some (cJ, .long)) (ht1 : tys[1]? = some (cQ, .object "SignedMill$Whole")) (ht2 : tys[2]? = some (cZ, .boolean)) (ht3 : tys[3]? = some (cI, .int)) (r1 r2 r3 : Int32) (eP : P = sp3 0 X (fun d a b => kp X d (X a - X b)) r1 r2 r3) : vx_M l D vcl tys my_M_take lw_gd (rm_ 7 C S 155) [.ref (ad 30), .int r1, .int r2, .int r3] h (jpost cJ cQ cZ cI ad q X P.2 C S P.1) := jm_M J (fun r0 W LY HM => by rw [eP]; exact cM_take LY HM ht ht1 ht2 r1 r2 r3)
theorem jR_take (J : JM cJ cQ cZ cI ad q X P.2 h C S) (ht : tys[0]? = some (cJ, .long)) (ht1 : tys[1]? = some (cQ, .object "SignedMill$Whole")) (ht2 : tys[2]? = some (cZ, .boolean)) (ht3 : tys[3]? = some (cI, .int)) (r1 r2 r3 : Int32) (eP : P = sp3 0 X (fun d a b => kp X d (X a - X b)) r1 r2 r3) : vx_M l D vcl tys my_R_take lw_gd (rm_ 4 0 0 96) [.ref (q 0), .int r1, .int r2, .int r3] h (jpostR cJ cQ cZ cI ad q P.2 C S P.1) := jm_R J (fun h0 f g s V LR HP HX => by rw [eP]; exact cR_take LR ht2 ht3 HP HX r1 r2 r3)
set_option maxRecDepth 100000 in
set_option maxHeartbeats 8000000 in
theorem lc_take (IG : vx_I l D vcl tys room_1 "SignedMillLaw" bc_L_law 4 lw_gd false A H0 G) (SL : scR D A H0 G bs L xs) (J : JM cJ cQ cZ cI ad q X X h C S) (ht : tys[0]? = some (cJ, .long)) (ht1 : tys[1]? = some (cQ, .object "SignedMill$Whole")) (ht2 : tys[2]? = some (cZ, .boolean)) (ht3 : tys[3]? = some (cI, .int)) (hk : k + C ≤ 600000) (hn : n + S ≤ 7302250) (hi : i + 6 ≤ L) (NX : nxL cJ cQ cZ cI ad q D A H0 G i bs) : vx_V D vcl A H0 4 G h k n 407 [(3, .int (nI i)), (2, .ref (q 0)), (1, .ref (ad 30)), (0, .ref bs)] [] := by
  obtain ⟨fs, ho⟩ := jm_oM J
  obtain ⟨P, eP⟩ : ∃ P : Int32 × (Nat → Int), P = sp3 0 X (fun d a b => kp X d (X a - X b)) (xs (i + 1)) (xs (i + 2)) (xs (i + 3)) := ⟨_, rfl⟩
  refine vx_aload_n IG dc_L_law_407 rfl 2 rfl ?_
  refine vx_aload_n IG dc_L_law_408 rfl 3 rfl ?_
  refine vx_iload_n IG dc_L_law_409 rfl 0 rfl ?_
  refine vx_iconst (v := 1) IG dc_L_law_410 (by decide) ?_
  refine vx_iadd IG dc_L_law_411 ?_
  refine vx_topi (y := nI (i + 1)) (nI_add _ _) ?_
  refine SL.1 _ _ _ _ _ _ _ (by omega) dc_L_law_412 ?_
  refine vx_aload_n IG dc_L_law_413 rfl 3 rfl ?_
  refine vx_iload_n IG dc_L_law_414 rfl 0 rfl ?_
  refine vx_iconst (v := 2) IG dc_L_law_415 (by decide) ?_
  refine vx_iadd IG dc_L_law_416 ?_
  refine vx_topi (y := nI (i + 2)) (nI_add _ _) ?_
  refine SL.1 _ _ _ _ _ _ _ (by omega) dc_L_law_417 ?_
  refine vx_aload_n IG dc_L_law_418 rfl 3 rfl ?_
  refine vx_iload_n IG dc_L_law_419 rfl 0 rfl ?_
  refine vx_iconst (v := 3) IG dc_L_law_420 (by decide) ?_
  refine vx_iadd IG dc_L_law_421 ?_
  refine vx_topi (y := nI (i + 3)) (nI_add _ _) ?_
  refine SL.1 _ _ _ _ _ _ _ (by omega) dc_L_law_422 ?_
  refine vx_callV (As := [.int (xs (i + 1)), .int (xs (i + 2)), .int (xs (i + 3))]) (st := []) IG lw_good (jM_take J ht ht1 ht2 ht3 (xs (i + 1)) (xs (i + 2)) (xs (i + 3)) eP) ho rfl wC_M_take wL_L_39 wI_M_take wS_M_take wX_M 3 (by decide +kernel) rfl ⟨Nat.le_of_ble_eq_true rfl, Nat.le_of_ble_eq_true rfl⟩ ⟨(show k + C ≤ 600000 from hk), (show n + S ≤ 7302250 from hn)⟩ rfl (Nat.le_of_ble_eq_true rfl) dc_L_law_423 (fun v h k_ n_ hq => ?_)
  obtain ⟨rfl, C1, S1, J1, hk1, hn1⟩ := hq
  show vx_V _ _ _ _ _ _ _ _ _ 426 [(3, .int (nI i)), (2, .ref (q 0)), (1, .ref (ad 30)), (0, .ref bs)] [.int P.1]
  refine vx_aload_n IG dc_L_law_426 rfl 1 rfl ?_
  refine vx_aload_n IG dc_L_law_427 rfl 3 rfl ?_
  refine vx_iload_n IG dc_L_law_428 rfl 0 rfl ?_
  refine vx_iconst (v := 1) IG dc_L_law_429 (by decide) ?_
  refine vx_iadd IG dc_L_law_430 ?_
  refine vx_topi (y := nI (i + 1)) (nI_add _ _) ?_
  refine SL.1 _ _ _ _ _ _ _ (by omega) dc_L_law_431 ?_
  refine vx_aload_n IG dc_L_law_432 rfl 3 rfl ?_
  refine vx_iload_n IG dc_L_law_433 rfl 0 rfl ?_
  refine vx_iconst (v := 2) IG dc_L_law_434 (by decide) ?_
  refine vx_iadd IG dc_L_law_435 ?_
  refine vx_topi (y := nI (i + 2)) (nI_add _ _) ?_
  refine SL.1 _ _ _ _ _ _ _ (by omega) dc_L_law_436 ?_
  refine vx_aload_n IG dc_L_law_437 rfl 3 rfl ?_
  refine vx_iload_n IG dc_L_law_438 rfl 0 rfl ?_
  refine vx_iconst (v := 3) IG dc_L_law_439 (by decide) ?_
  refine vx_iadd IG dc_L_law_440 ?_
  refine vx_topi (y := nI (i + 3)) (nI_add _ _) ?_
  refine SL.1 _ _ _ _ _ _ _ (by omega) dc_L_law_441 ?_
  refine vx_callV (As := [.int (xs (i + 1)), .int (xs (i + 2)), .int (xs (i + 3))]) (st := [.int P.1]) IG lw_good (jR_take J1 ht ht1 ht2 ht3 (xs (i + 1)) (xs (i + 2)) (xs (i + 3)) eP) (jm_oR J1) rfl wC_R_take wL_L_42 wI_R_take wS_R_take wX_R 3 (by decide +kernel) rfl ⟨Nat.le_of_ble_eq_true rfl, Nat.le_of_ble_eq_true rfl⟩ ⟨(by show _ + 0 ≤ 600000; omega), (by show _ + 0 ≤ 7302250; omega)⟩ rfl (Nat.le_of_ble_eq_true rfl) dc_L_law_442 (fun v h k_ n_ hq => ?_)
  obtain ⟨rfl, rfl, rfl, J2⟩ := hq
  show vx_V _ _ _ _ _ _ _ _ _ 445 [(3, .int (nI i)), (2, .ref (q 0)), (1, .ref (ad 30)), (0, .ref bs)] [.int P.1, .int P.1]
  refine vx_icmp_eq (tgt := 1061) IG dc_L_law_445 (by decide) (fun _ => ?_) (fun c_ => absurd rfl c_)
  exact NX P.2 h C1 S1 _ _ J2 (by omega) (by omega)
theorem jM_times (J : JM cJ cQ cZ cI ad q X X h C S) (ht : tys[0]? = some (cJ, .long)) (ht1 : tys[1]? = some (cQ, .object "SignedMill$Whole")) (ht2 : tys[2]? = some (cZ, .boolean)) (ht3 : tys[3]? = some (cI, .int)) (r1 r2 r3 : Int32) (eP : P = sp3 0 X (fun d a b => kp X d (X a * X b)) r1 r2 r3) : vx_M l D vcl tys my_M_times lw_gd (rm_ 6 C S 131) [.ref (ad 30), .int r1, .int r2, .int r3] h (jpost cJ cQ cZ cI ad q X P.2 C S P.1) := jm_M J (fun r0 W LY HM => by rw [eP]; exact cM_times LY HM ht ht1 ht2 r1 r2 r3)
theorem jR_times (J : JM cJ cQ cZ cI ad q X P.2 h C S) (ht : tys[0]? = some (cJ, .long)) (ht1 : tys[1]? = some (cQ, .object "SignedMill$Whole")) (ht2 : tys[2]? = some (cZ, .boolean)) (ht3 : tys[3]? = some (cI, .int)) (r1 r2 r3 : Int32) (eP : P = sp3 0 X (fun d a b => kp X d (X a * X b)) r1 r2 r3) : vx_M l D vcl tys my_R_times lw_gd (rm_ 3 0 0 75) [.ref (q 0), .int r1, .int r2, .int r3] h (jpostR cJ cQ cZ cI ad q P.2 C S P.1) := jm_R J (fun h0 f g s V LR HP HX => by rw [eP]; exact cR_times LR ht2 ht3 HP HX r1 r2 r3)
set_option maxRecDepth 100000 in
set_option maxHeartbeats 8000000 in
theorem lc_times (IG : vx_I l D vcl tys room_1 "SignedMillLaw" bc_L_law 4 lw_gd false A H0 G) (SL : scR D A H0 G bs L xs) (J : JM cJ cQ cZ cI ad q X X h C S) (ht : tys[0]? = some (cJ, .long)) (ht1 : tys[1]? = some (cQ, .object "SignedMill$Whole")) (ht2 : tys[2]? = some (cZ, .boolean)) (ht3 : tys[3]? = some (cI, .int)) (hk : k + C ≤ 600000) (hn : n + S ≤ 7302250) (hi : i + 6 ≤ L) (NX : nxL cJ cQ cZ cI ad q D A H0 G i bs) : vx_V D vcl A H0 4 G h k n 450 [(3, .int (nI i)), (2, .ref (q 0)), (1, .ref (ad 30)), (0, .ref bs)] [] := by
  obtain ⟨fs, ho⟩ := jm_oM J
  obtain ⟨P, eP⟩ : ∃ P : Int32 × (Nat → Int), P = sp3 0 X (fun d a b => kp X d (X a * X b)) (xs (i + 1)) (xs (i + 2)) (xs (i + 3)) := ⟨_, rfl⟩
  refine vx_aload_n IG dc_L_law_450 rfl 2 rfl ?_
  refine vx_aload_n IG dc_L_law_451 rfl 3 rfl ?_
  refine vx_iload_n IG dc_L_law_452 rfl 0 rfl ?_
  refine vx_iconst (v := 1) IG dc_L_law_453 (by decide) ?_
  refine vx_iadd IG dc_L_law_454 ?_
  refine vx_topi (y := nI (i + 1)) (nI_add _ _) ?_
  refine SL.1 _ _ _ _ _ _ _ (by omega) dc_L_law_455 ?_
  refine vx_aload_n IG dc_L_law_456 rfl 3 rfl ?_
  refine vx_iload_n IG dc_L_law_457 rfl 0 rfl ?_
  refine vx_iconst (v := 2) IG dc_L_law_458 (by decide) ?_
  refine vx_iadd IG dc_L_law_459 ?_
  refine vx_topi (y := nI (i + 2)) (nI_add _ _) ?_
  refine SL.1 _ _ _ _ _ _ _ (by omega) dc_L_law_460 ?_
  refine vx_aload_n IG dc_L_law_461 rfl 3 rfl ?_
  refine vx_iload_n IG dc_L_law_462 rfl 0 rfl ?_
  refine vx_iconst (v := 3) IG dc_L_law_463 (by decide) ?_
  refine vx_iadd IG dc_L_law_464 ?_
  refine vx_topi (y := nI (i + 3)) (nI_add _ _) ?_
  refine SL.1 _ _ _ _ _ _ _ (by omega) dc_L_law_465 ?_
  refine vx_callV (As := [.int (xs (i + 1)), .int (xs (i + 2)), .int (xs (i + 3))]) (st := []) IG lw_good (jM_times J ht ht1 ht2 ht3 (xs (i + 1)) (xs (i + 2)) (xs (i + 3)) eP) ho rfl wC_M_times wL_L_43 wI_M_times wS_M_times wX_M 3 (by decide +kernel) rfl ⟨Nat.le_of_ble_eq_true rfl, Nat.le_of_ble_eq_true rfl⟩ ⟨(show k + C ≤ 600000 from hk), (show n + S ≤ 7302250 from hn)⟩ rfl (Nat.le_of_ble_eq_true rfl) dc_L_law_466 (fun v h k_ n_ hq => ?_)
  obtain ⟨rfl, C1, S1, J1, hk1, hn1⟩ := hq
  show vx_V _ _ _ _ _ _ _ _ _ 469 [(3, .int (nI i)), (2, .ref (q 0)), (1, .ref (ad 30)), (0, .ref bs)] [.int P.1]
  refine vx_aload_n IG dc_L_law_469 rfl 1 rfl ?_
  refine vx_aload_n IG dc_L_law_470 rfl 3 rfl ?_
  refine vx_iload_n IG dc_L_law_471 rfl 0 rfl ?_
  refine vx_iconst (v := 1) IG dc_L_law_472 (by decide) ?_
  refine vx_iadd IG dc_L_law_473 ?_
  refine vx_topi (y := nI (i + 1)) (nI_add _ _) ?_
  refine SL.1 _ _ _ _ _ _ _ (by omega) dc_L_law_474 ?_
  refine vx_aload_n IG dc_L_law_475 rfl 3 rfl ?_
  refine vx_iload_n IG dc_L_law_476 rfl 0 rfl ?_
  refine vx_iconst (v := 2) IG dc_L_law_477 (by decide) ?_
  refine vx_iadd IG dc_L_law_478 ?_
  refine vx_topi (y := nI (i + 2)) (nI_add _ _) ?_
  refine SL.1 _ _ _ _ _ _ _ (by omega) dc_L_law_479 ?_
  refine vx_aload_n IG dc_L_law_480 rfl 3 rfl ?_
  refine vx_iload_n IG dc_L_law_481 rfl 0 rfl ?_
  refine vx_iconst (v := 3) IG dc_L_law_482 (by decide) ?_
  refine vx_iadd IG dc_L_law_483 ?_
  refine vx_topi (y := nI (i + 3)) (nI_add _ _) ?_
  refine SL.1 _ _ _ _ _ _ _ (by omega) dc_L_law_484 ?_
  refine vx_callV (As := [.int (xs (i + 1)), .int (xs (i + 2)), .int (xs (i + 3))]) (st := [.int P.1]) IG lw_good (jR_times J1 ht ht1 ht2 ht3 (xs (i + 1)) (xs (i + 2)) (xs (i + 3)) eP) (jm_oR J1) rfl wC_R_times wL_L_46 wI_R_times wS_R_times wX_R 3 (by decide +kernel) rfl ⟨Nat.le_of_ble_eq_true rfl, Nat.le_of_ble_eq_true rfl⟩ ⟨(by show _ + 0 ≤ 600000; omega), (by show _ + 0 ≤ 7302250; omega)⟩ rfl (Nat.le_of_ble_eq_true rfl) dc_L_law_485 (fun v h k_ n_ hq => ?_)
  obtain ⟨rfl, rfl, rfl, J2⟩ := hq
  show vx_V _ _ _ _ _ _ _ _ _ 488 [(3, .int (nI i)), (2, .ref (q 0)), (1, .ref (ad 30)), (0, .ref bs)] [.int P.1, .int P.1]
  refine vx_icmp_eq (tgt := 1061) IG dc_L_law_488 (by decide) (fun _ => ?_) (fun c_ => absurd rfl c_)
  exact NX P.2 h C1 S1 _ _ J2 (by omega) (by omega)
theorem jM_divide (J : JM cJ cQ cZ cI ad q X X h C S) (ht : tys[0]? = some (cJ, .long)) (ht1 : tys[1]? = some (cQ, .object "SignedMill$Whole")) (ht2 : tys[2]? = some (cZ, .boolean)) (ht3 : tys[3]? = some (cI, .int)) (r1 r2 r3 r4 dn : Int32) (eP : P = sp4 0 X (dvF X dn) r1 r2 r3 r4) : vx_M l D vcl tys my_M_divide lw_gd (rm_ 5 C S 133) [.ref (ad 30), .int r1, .int r2, .int r3, .int r4, .int dn] h (jpost cJ cQ cZ cI ad q X P.2 C S P.1) := jm_M J (fun r0 W LY HM => by rw [eP]; exact cM_divide LY HM ht ht1 ht2 r1 r2 r3 r4 dn)
theorem jR_divide (J : JM cJ cQ cZ cI ad q X P.2 h C S) (ht : tys[0]? = some (cJ, .long)) (ht1 : tys[1]? = some (cQ, .object "SignedMill$Whole")) (ht2 : tys[2]? = some (cZ, .boolean)) (ht3 : tys[3]? = some (cI, .int)) (r1 r2 r3 r4 dn : Int32) (eP : P = sp4 0 X (dvF X dn) r1 r2 r3 r4) : vx_M l D vcl tys my_R_divide lw_gd (rm_ 4 0 0 98) [.ref (q 0), .int r1, .int r2, .int r3, .int r4, .int dn] h (jpostR cJ cQ cZ cI ad q P.2 C S P.1) := jm_R J (fun h0 f g s V LR HP HX => by rw [eP]; exact cR_divide LR ht2 ht3 HP HX r1 r2 r3 r4 dn)
set_option maxRecDepth 100000 in
set_option maxHeartbeats 8000000 in
theorem lc_divide (IG : vx_I l D vcl tys room_1 "SignedMillLaw" bc_L_law 4 lw_gd false A H0 G) (SL : scR D A H0 G bs L xs) (J : JM cJ cQ cZ cI ad q X X h C S) (ht : tys[0]? = some (cJ, .long)) (ht1 : tys[1]? = some (cQ, .object "SignedMill$Whole")) (ht2 : tys[2]? = some (cZ, .boolean)) (ht3 : tys[3]? = some (cI, .int)) (hk : k + C ≤ 600000) (hn : n + S ≤ 7302250) (hi : i + 6 ≤ L) (NX : nxL cJ cQ cZ cI ad q D A H0 G i bs) : vx_V D vcl A H0 4 G h k n 493 [(3, .int (nI i)), (2, .ref (q 0)), (1, .ref (ad 30)), (0, .ref bs)] [] := by
  obtain ⟨fs, ho⟩ := jm_oM J
  refine vx_aload_n IG dc_L_law_493 rfl 2 rfl ?_
  refine vx_aload_n IG dc_L_law_494 rfl 3 rfl ?_
  refine vx_iload_n IG dc_L_law_495 rfl 0 rfl ?_
  refine vx_iconst (v := 1) IG dc_L_law_496 (by decide) ?_
  refine vx_iadd IG dc_L_law_497 ?_
  refine vx_topi (y := nI (i + 1)) (nI_add _ _) ?_
  refine SL.1 _ _ _ _ _ _ _ (by omega) dc_L_law_498 ?_
  refine vx_aload_n IG dc_L_law_499 rfl 3 rfl ?_
  refine vx_iload_n IG dc_L_law_500 rfl 0 rfl ?_
  refine vx_iconst (v := 2) IG dc_L_law_501 (by decide) ?_
  refine vx_iadd IG dc_L_law_502 ?_
  refine vx_topi (y := nI (i + 2)) (nI_add _ _) ?_
  refine SL.1 _ _ _ _ _ _ _ (by omega) dc_L_law_503 ?_
  refine vx_aload_n IG dc_L_law_504 rfl 3 rfl ?_
  refine vx_iload_n IG dc_L_law_505 rfl 0 rfl ?_
  refine vx_iconst (v := 3) IG dc_L_law_506 (by decide) ?_
  refine vx_iadd IG dc_L_law_507 ?_
  refine vx_topi (y := nI (i + 3)) (nI_add _ _) ?_
  refine SL.1 _ _ _ _ _ _ _ (by omega) dc_L_law_508 ?_
  refine vx_aload_n IG dc_L_law_509 rfl 3 rfl ?_
  refine vx_iload_n IG dc_L_law_510 rfl 0 rfl ?_
  refine vx_iconst (v := 4) IG dc_L_law_511 (by decide) ?_
  refine vx_iadd IG dc_L_law_512 ?_
  refine vx_topi (y := nI (i + 4)) (nI_add _ _) ?_
  refine SL.1 _ _ _ _ _ _ _ (by omega) dc_L_law_513 ?_
  refine vx_aload_n IG dc_L_law_514 rfl 3 rfl ?_
  refine vx_iload_n IG dc_L_law_515 rfl 0 rfl ?_
  refine vx_iconst (v := 5) IG dc_L_law_516 (by decide) ?_
  refine vx_iadd IG dc_L_law_517 ?_
  refine vx_topi (y := nI (i + 5)) (nI_add _ _) ?_
  refine SL.1 _ _ _ _ _ _ _ (by omega) dc_L_law_518 ?_
  by_cases e5 : xs (i + 5) = 0
  · refine vx_if_eq (tgt := 526) IG dc_L_law_519 (by decide) (fun _ => ?_) (fun c_ => absurd e5 c_)
    refine vx_iconst (v := 0) IG dc_L_law_526 (by decide) ?_
    obtain ⟨P, eP⟩ : ∃ P : Int32 × (Nat → Int), P = sp4 0 X (dvF X 0) (xs (i + 1)) (xs (i + 2)) (xs (i + 3)) (xs (i + 4)) := ⟨_, rfl⟩
    refine vx_callV (As := [.int (xs (i + 1)), .int (xs (i + 2)), .int (xs (i + 3)), .int (xs (i + 4)), .int 0]) (st := []) IG lw_good (jM_divide J ht ht1 ht2 ht3 (xs (i + 1)) (xs (i + 2)) (xs (i + 3)) (xs (i + 4)) 0 eP) ho rfl wC_M_divide wL_L_47 wI_M_divide wS_M_divide wX_M 5 (by decide +kernel) rfl ⟨Nat.le_of_ble_eq_true rfl, Nat.le_of_ble_eq_true rfl⟩ ⟨(show k + C ≤ 600000 from hk), (show n + S ≤ 7302250 from hn)⟩ rfl (Nat.le_of_ble_eq_true rfl) dc_L_law_527 (fun v h k_ n_ hq => ?_)
    obtain ⟨rfl, C1, S1, J1, hk1, hn1⟩ := hq
    show vx_V _ _ _ _ _ _ _ _ _ 530 [(3, .int (nI i)), (2, .ref (q 0)), (1, .ref (ad 30)), (0, .ref bs)] [.int P.1]
    refine vx_aload_n IG dc_L_law_530 rfl 1 rfl ?_
    refine vx_aload_n IG dc_L_law_531 rfl 3 rfl ?_
    refine vx_iload_n IG dc_L_law_532 rfl 0 rfl ?_
    refine vx_iconst (v := 1) IG dc_L_law_533 (by decide) ?_
    refine vx_iadd IG dc_L_law_534 ?_
    refine vx_topi (y := nI (i + 1)) (nI_add _ _) ?_
    refine SL.1 _ _ _ _ _ _ _ (by omega) dc_L_law_535 ?_
    refine vx_aload_n IG dc_L_law_536 rfl 3 rfl ?_
    refine vx_iload_n IG dc_L_law_537 rfl 0 rfl ?_
    refine vx_iconst (v := 2) IG dc_L_law_538 (by decide) ?_
    refine vx_iadd IG dc_L_law_539 ?_
    refine vx_topi (y := nI (i + 2)) (nI_add _ _) ?_
    refine SL.1 _ _ _ _ _ _ _ (by omega) dc_L_law_540 ?_
    refine vx_aload_n IG dc_L_law_541 rfl 3 rfl ?_
    refine vx_iload_n IG dc_L_law_542 rfl 0 rfl ?_
    refine vx_iconst (v := 3) IG dc_L_law_543 (by decide) ?_
    refine vx_iadd IG dc_L_law_544 ?_
    refine vx_topi (y := nI (i + 3)) (nI_add _ _) ?_
    refine SL.1 _ _ _ _ _ _ _ (by omega) dc_L_law_545 ?_
    refine vx_aload_n IG dc_L_law_546 rfl 3 rfl ?_
    refine vx_iload_n IG dc_L_law_547 rfl 0 rfl ?_
    refine vx_iconst (v := 4) IG dc_L_law_548 (by decide) ?_
    refine vx_iadd IG dc_L_law_549 ?_
    refine vx_topi (y := nI (i + 4)) (nI_add _ _) ?_
    refine SL.1 _ _ _ _ _ _ _ (by omega) dc_L_law_550 ?_
    refine vx_aload_n IG dc_L_law_551 rfl 3 rfl ?_
    refine vx_iload_n IG dc_L_law_552 rfl 0 rfl ?_
    refine vx_iconst (v := 5) IG dc_L_law_553 (by decide) ?_
    refine vx_iadd IG dc_L_law_554 ?_
    refine vx_topi (y := nI (i + 5)) (nI_add _ _) ?_
    refine SL.1 _ _ _ _ _ _ _ (by omega) dc_L_law_555 ?_
    refine vx_if_eq (tgt := 563) IG dc_L_law_556 (by decide) (fun _ => ?_) (fun c_ => absurd e5 c_)
    refine vx_iconst (v := 0) IG dc_L_law_563 (by decide) ?_
    refine vx_callV (As := [.int (xs (i + 1)), .int (xs (i + 2)), .int (xs (i + 3)), .int (xs (i + 4)), .int 0]) (st := [.int P.1]) IG lw_good (jR_divide J1 ht ht1 ht2 ht3 (xs (i + 1)) (xs (i + 2)) (xs (i + 3)) (xs (i + 4)) 0 eP) (jm_oR J1) rfl wC_R_divide wL_L_51 wI_R_divide wS_R_divide wX_R 5 (by decide +kernel) rfl ⟨Nat.le_of_ble_eq_true rfl, Nat.le_of_ble_eq_true rfl⟩ ⟨(by show _ + 0 ≤ 600000; omega), (by show _ + 0 ≤ 7302250; omega)⟩ rfl (Nat.le_of_ble_eq_true rfl) dc_L_law_564 (fun v h k_ n_ hq => ?_)
    obtain ⟨rfl, rfl, rfl, J2⟩ := hq
    show vx_V _ _ _ _ _ _ _ _ _ 567 [(3, .int (nI i)), (2, .ref (q 0)), (1, .ref (ad 30)), (0, .ref bs)] [.int P.1, .int P.1]
    refine vx_icmp_eq (tgt := 1061) IG dc_L_law_567 (by decide) (fun _ => ?_) (fun c_ => absurd rfl c_)
    exact NX P.2 h C1 S1 _ _ J2 (by omega) (by omega)
  · refine vx_if_eq (tgt := 526) IG dc_L_law_519 (by decide) (fun c_ => absurd c_ e5) (fun _ => ?_)
    refine vx_iconst (v := 1) IG dc_L_law_522 (by decide) ?_
    refine vx_goto (tgt := 527) IG dc_L_law_523 (by decide) ?_
    obtain ⟨P, eP⟩ : ∃ P : Int32 × (Nat → Int), P = sp4 0 X (dvF X 1) (xs (i + 1)) (xs (i + 2)) (xs (i + 3)) (xs (i + 4)) := ⟨_, rfl⟩
    refine vx_callV (As := [.int (xs (i + 1)), .int (xs (i + 2)), .int (xs (i + 3)), .int (xs (i + 4)), .int 1]) (st := []) IG lw_good (jM_divide J ht ht1 ht2 ht3 (xs (i + 1)) (xs (i + 2)) (xs (i + 3)) (xs (i + 4)) 1 eP) ho rfl wC_M_divide wL_L_47 wI_M_divide wS_M_divide wX_M 5 (by decide +kernel) rfl ⟨Nat.le_of_ble_eq_true rfl, Nat.le_of_ble_eq_true rfl⟩ ⟨(show k + C ≤ 600000 from hk), (show n + S ≤ 7302250 from hn)⟩ rfl (Nat.le_of_ble_eq_true rfl) dc_L_law_527 (fun v h k_ n_ hq => ?_)
    obtain ⟨rfl, C1, S1, J1, hk1, hn1⟩ := hq
    show vx_V _ _ _ _ _ _ _ _ _ 530 [(3, .int (nI i)), (2, .ref (q 0)), (1, .ref (ad 30)), (0, .ref bs)] [.int P.1]
    refine vx_aload_n IG dc_L_law_530 rfl 1 rfl ?_
    refine vx_aload_n IG dc_L_law_531 rfl 3 rfl ?_
    refine vx_iload_n IG dc_L_law_532 rfl 0 rfl ?_
    refine vx_iconst (v := 1) IG dc_L_law_533 (by decide) ?_
    refine vx_iadd IG dc_L_law_534 ?_
    refine vx_topi (y := nI (i + 1)) (nI_add _ _) ?_
    refine SL.1 _ _ _ _ _ _ _ (by omega) dc_L_law_535 ?_
    refine vx_aload_n IG dc_L_law_536 rfl 3 rfl ?_
    refine vx_iload_n IG dc_L_law_537 rfl 0 rfl ?_
    refine vx_iconst (v := 2) IG dc_L_law_538 (by decide) ?_
    refine vx_iadd IG dc_L_law_539 ?_
    refine vx_topi (y := nI (i + 2)) (nI_add _ _) ?_
    refine SL.1 _ _ _ _ _ _ _ (by omega) dc_L_law_540 ?_
    refine vx_aload_n IG dc_L_law_541 rfl 3 rfl ?_
    refine vx_iload_n IG dc_L_law_542 rfl 0 rfl ?_
    refine vx_iconst (v := 3) IG dc_L_law_543 (by decide) ?_
    refine vx_iadd IG dc_L_law_544 ?_
    refine vx_topi (y := nI (i + 3)) (nI_add _ _) ?_
    refine SL.1 _ _ _ _ _ _ _ (by omega) dc_L_law_545 ?_
    refine vx_aload_n IG dc_L_law_546 rfl 3 rfl ?_
    refine vx_iload_n IG dc_L_law_547 rfl 0 rfl ?_
    refine vx_iconst (v := 4) IG dc_L_law_548 (by decide) ?_
    refine vx_iadd IG dc_L_law_549 ?_
    refine vx_topi (y := nI (i + 4)) (nI_add _ _) ?_
    refine SL.1 _ _ _ _ _ _ _ (by omega) dc_L_law_550 ?_
    refine vx_aload_n IG dc_L_law_551 rfl 3 rfl ?_
    refine vx_iload_n IG dc_L_law_552 rfl 0 rfl ?_
    refine vx_iconst (v := 5) IG dc_L_law_553 (by decide) ?_
    refine vx_iadd IG dc_L_law_554 ?_
    refine vx_topi (y := nI (i + 5)) (nI_add _ _) ?_
    refine SL.1 _ _ _ _ _ _ _ (by omega) dc_L_law_555 ?_
    refine vx_if_eq (tgt := 563) IG dc_L_law_556 (by decide) (fun c_ => absurd c_ e5) (fun _ => ?_)
    refine vx_iconst (v := 1) IG dc_L_law_559 (by decide) ?_
    refine vx_goto (tgt := 564) IG dc_L_law_560 (by decide) ?_
    refine vx_callV (As := [.int (xs (i + 1)), .int (xs (i + 2)), .int (xs (i + 3)), .int (xs (i + 4)), .int 1]) (st := [.int P.1]) IG lw_good (jR_divide J1 ht ht1 ht2 ht3 (xs (i + 1)) (xs (i + 2)) (xs (i + 3)) (xs (i + 4)) 1 eP) (jm_oR J1) rfl wC_R_divide wL_L_51 wI_R_divide wS_R_divide wX_R 5 (by decide +kernel) rfl ⟨Nat.le_of_ble_eq_true rfl, Nat.le_of_ble_eq_true rfl⟩ ⟨(by show _ + 0 ≤ 600000; omega), (by show _ + 0 ≤ 7302250; omega)⟩ rfl (Nat.le_of_ble_eq_true rfl) dc_L_law_564 (fun v h k_ n_ hq => ?_)
    obtain ⟨rfl, rfl, rfl, J2⟩ := hq
    show vx_V _ _ _ _ _ _ _ _ _ 567 [(3, .int (nI i)), (2, .ref (q 0)), (1, .ref (ad 30)), (0, .ref bs)] [.int P.1, .int P.1]
    refine vx_icmp_eq (tgt := 1061) IG dc_L_law_567 (by decide) (fun _ => ?_) (fun c_ => absurd rfl c_)
    exact NX P.2 h C1 S1 _ _ J2 (by omega) (by omega)
theorem jM_logic (J : JM cJ cQ cZ cI ad q X X h C S) (ht : tys[0]? = some (cJ, .long)) (ht1 : tys[1]? = some (cQ, .object "SignedMill$Whole")) (ht2 : tys[2]? = some (cZ, .boolean)) (ht3 : tys[3]? = some (cI, .int)) (r1 r2 r3 hw : Int32) (eP : P = sp3 0 X (lgF X hw) r1 r2 r3) : vx_M l D vcl tys my_M_logic lw_gd (rm_ 6 C S 135) [.ref (ad 30), .int r1, .int r2, .int r3, .int hw] h (jpost cJ cQ cZ cI ad q X P.2 C S P.1) := jm_M J (fun r0 W LY HM => by rw [eP]; exact cM_logic LY HM ht ht1 ht2 r1 r2 r3 hw)
theorem jR_logic (J : JM cJ cQ cZ cI ad q X P.2 h C S) (ht : tys[0]? = some (cJ, .long)) (ht1 : tys[1]? = some (cQ, .object "SignedMill$Whole")) (ht2 : tys[2]? = some (cZ, .boolean)) (ht3 : tys[3]? = some (cI, .int)) (r1 r2 r3 how : Int32) (eP : P = sp3 0 X (lgF X how) r1 r2 r3) : vx_M l D vcl tys my_R_logic lw_gd (rm_ 3 0 0 66) [.ref (q 0), .int r1, .int r2, .int r3, .int how] h (jpostR cJ cQ cZ cI ad q P.2 C S P.1) := jm_R J (fun h0 f g s V LR HP HX => by rw [eP]; exact cR_logic LR ht2 ht3 HP HX r1 r2 r3 how)
set_option maxRecDepth 100000 in
set_option maxHeartbeats 8000000 in
theorem lc_logic (IG : vx_I l D vcl tys room_1 "SignedMillLaw" bc_L_law 4 lw_gd false A H0 G) (SL : scR D A H0 G bs L xs) (J : JM cJ cQ cZ cI ad q X X h C S) (ht : tys[0]? = some (cJ, .long)) (ht1 : tys[1]? = some (cQ, .object "SignedMill$Whole")) (ht2 : tys[2]? = some (cZ, .boolean)) (ht3 : tys[3]? = some (cI, .int)) (hk : k + C ≤ 600000) (hn : n + S ≤ 7302250) (hi : i + 6 ≤ L) (NX : nxL cJ cQ cZ cI ad q D A H0 G i bs) : vx_V D vcl A H0 4 G h k n 572 [(3, .int (nI i)), (2, .ref (q 0)), (1, .ref (ad 30)), (0, .ref bs)] [] := by
  obtain ⟨fs, ho⟩ := jm_oM J
  obtain ⟨P, eP⟩ : ∃ P : Int32 × (Nat → Int), P = sp3 0 X (lgF X (xs (i + 4))) (xs (i + 1)) (xs (i + 2)) (xs (i + 3)) := ⟨_, rfl⟩
  refine vx_aload_n IG dc_L_law_572 rfl 2 rfl ?_
  refine vx_aload_n IG dc_L_law_573 rfl 3 rfl ?_
  refine vx_iload_n IG dc_L_law_574 rfl 0 rfl ?_
  refine vx_iconst (v := 1) IG dc_L_law_575 (by decide) ?_
  refine vx_iadd IG dc_L_law_576 ?_
  refine vx_topi (y := nI (i + 1)) (nI_add _ _) ?_
  refine SL.1 _ _ _ _ _ _ _ (by omega) dc_L_law_577 ?_
  refine vx_aload_n IG dc_L_law_578 rfl 3 rfl ?_
  refine vx_iload_n IG dc_L_law_579 rfl 0 rfl ?_
  refine vx_iconst (v := 2) IG dc_L_law_580 (by decide) ?_
  refine vx_iadd IG dc_L_law_581 ?_
  refine vx_topi (y := nI (i + 2)) (nI_add _ _) ?_
  refine SL.1 _ _ _ _ _ _ _ (by omega) dc_L_law_582 ?_
  refine vx_aload_n IG dc_L_law_583 rfl 3 rfl ?_
  refine vx_iload_n IG dc_L_law_584 rfl 0 rfl ?_
  refine vx_iconst (v := 3) IG dc_L_law_585 (by decide) ?_
  refine vx_iadd IG dc_L_law_586 ?_
  refine vx_topi (y := nI (i + 3)) (nI_add _ _) ?_
  refine SL.1 _ _ _ _ _ _ _ (by omega) dc_L_law_587 ?_
  refine vx_aload_n IG dc_L_law_588 rfl 3 rfl ?_
  refine vx_iload_n IG dc_L_law_589 rfl 0 rfl ?_
  refine vx_iconst (v := 4) IG dc_L_law_590 (by decide) ?_
  refine vx_iadd IG dc_L_law_591 ?_
  refine vx_topi (y := nI (i + 4)) (nI_add _ _) ?_
  refine SL.1 _ _ _ _ _ _ _ (by omega) dc_L_law_592 ?_
  refine vx_callV (As := [.int (xs (i + 1)), .int (xs (i + 2)), .int (xs (i + 3)), .int (xs (i + 4))]) (st := []) IG lw_good (jM_logic J ht ht1 ht2 ht3 (xs (i + 1)) (xs (i + 2)) (xs (i + 3)) (xs (i + 4)) eP) ho rfl wC_M_logic wL_L_52 wI_M_logic wS_M_logic wX_M 4 (by decide +kernel) rfl ⟨Nat.le_of_ble_eq_true rfl, Nat.le_of_ble_eq_true rfl⟩ ⟨(show k + C ≤ 600000 from hk), (show n + S ≤ 7302250 from hn)⟩ rfl (Nat.le_of_ble_eq_true rfl) dc_L_law_593 (fun v h k_ n_ hq => ?_)
  obtain ⟨rfl, C1, S1, J1, hk1, hn1⟩ := hq
  show vx_V _ _ _ _ _ _ _ _ _ 596 [(3, .int (nI i)), (2, .ref (q 0)), (1, .ref (ad 30)), (0, .ref bs)] [.int P.1]
  refine vx_aload_n IG dc_L_law_596 rfl 1 rfl ?_
  refine vx_aload_n IG dc_L_law_597 rfl 3 rfl ?_
  refine vx_iload_n IG dc_L_law_598 rfl 0 rfl ?_
  refine vx_iconst (v := 1) IG dc_L_law_599 (by decide) ?_
  refine vx_iadd IG dc_L_law_600 ?_
  refine vx_topi (y := nI (i + 1)) (nI_add _ _) ?_
  refine SL.1 _ _ _ _ _ _ _ (by omega) dc_L_law_601 ?_
  refine vx_aload_n IG dc_L_law_602 rfl 3 rfl ?_
  refine vx_iload_n IG dc_L_law_603 rfl 0 rfl ?_
  refine vx_iconst (v := 2) IG dc_L_law_604 (by decide) ?_
  refine vx_iadd IG dc_L_law_605 ?_
  refine vx_topi (y := nI (i + 2)) (nI_add _ _) ?_
  refine SL.1 _ _ _ _ _ _ _ (by omega) dc_L_law_606 ?_
  refine vx_aload_n IG dc_L_law_607 rfl 3 rfl ?_
  refine vx_iload_n IG dc_L_law_608 rfl 0 rfl ?_
  refine vx_iconst (v := 3) IG dc_L_law_609 (by decide) ?_
  refine vx_iadd IG dc_L_law_610 ?_
  refine vx_topi (y := nI (i + 3)) (nI_add _ _) ?_
  refine SL.1 _ _ _ _ _ _ _ (by omega) dc_L_law_611 ?_
  refine vx_aload_n IG dc_L_law_612 rfl 3 rfl ?_
  refine vx_iload_n IG dc_L_law_613 rfl 0 rfl ?_
  refine vx_iconst (v := 4) IG dc_L_law_614 (by decide) ?_
  refine vx_iadd IG dc_L_law_615 ?_
  refine vx_topi (y := nI (i + 4)) (nI_add _ _) ?_
  refine SL.1 _ _ _ _ _ _ _ (by omega) dc_L_law_616 ?_
  refine vx_callV (As := [.int (xs (i + 1)), .int (xs (i + 2)), .int (xs (i + 3)), .int (xs (i + 4))]) (st := [.int P.1]) IG lw_good (jR_logic J1 ht ht1 ht2 ht3 (xs (i + 1)) (xs (i + 2)) (xs (i + 3)) (xs (i + 4)) eP) (jm_oR J1) rfl wC_R_logic wL_L_56 wI_R_logic wS_R_logic wX_R 4 (by decide +kernel) rfl ⟨Nat.le_of_ble_eq_true rfl, Nat.le_of_ble_eq_true rfl⟩ ⟨(by show _ + 0 ≤ 600000; omega), (by show _ + 0 ≤ 7302250; omega)⟩ rfl (Nat.le_of_ble_eq_true rfl) dc_L_law_617 (fun v h k_ n_ hq => ?_)
  obtain ⟨rfl, rfl, rfl, J2⟩ := hq
  show vx_V _ _ _ _ _ _ _ _ _ 620 [(3, .int (nI i)), (2, .ref (q 0)), (1, .ref (ad 30)), (0, .ref bs)] [.int P.1, .int P.1]
  refine vx_icmp_eq (tgt := 1061) IG dc_L_law_620 (by decide) (fun _ => ?_) (fun c_ => absurd rfl c_)
  exact NX P.2 h C1 S1 _ _ J2 (by omega) (by omega)
theorem jM_shift (J : JM cJ cQ cZ cI ad q X X h C S) (ht : tys[0]? = some (cJ, .long)) (ht1 : tys[1]? = some (cQ, .object "SignedMill$Whole")) (ht2 : tys[2]? = some (cZ, .boolean)) (ht3 : tys[3]? = some (cI, .int)) (r1 r2 n : Int32) (eP : P = sp2 0 X (fun d a => kp X d (shZ (X a) n)) r1 r2) : vx_M l D vcl tys my_M_shift lw_gd (rm_ 7 C S 155) [.ref (ad 30), .int r1, .int r2, .int n] h (jpost cJ cQ cZ cI ad q X P.2 C S P.1) := jm_M J (fun r0 W LY HM => by rw [eP]; exact cM_shift LY HM ht ht1 ht2 r1 r2 n)
theorem jR_shift (J : JM cJ cQ cZ cI ad q X P.2 h C S) (ht : tys[0]? = some (cJ, .long)) (ht1 : tys[1]? = some (cQ, .object "SignedMill$Whole")) (ht2 : tys[2]? = some (cZ, .boolean)) (ht3 : tys[3]? = some (cI, .int)) (r1 r2 p : Int32) (eP : P = sp2 0 X (fun d a => kp X d (shZ (X a) p)) r1 r2) : vx_M l D vcl tys my_R_shift lw_gd (rm_ 3 0 0 72) [.ref (q 0), .int r1, .int r2, .int p] h (jpostR cJ cQ cZ cI ad q P.2 C S P.1) := jm_R J (fun h0 f g s V LR HP HX => by rw [eP]; exact cR_shift LR ht2 ht3 HP HX r1 r2 p)
set_option maxRecDepth 100000 in
set_option maxHeartbeats 8000000 in
theorem lc_shift (IG : vx_I l D vcl tys room_1 "SignedMillLaw" bc_L_law 4 lw_gd false A H0 G) (SL : scR D A H0 G bs L xs) (J : JM cJ cQ cZ cI ad q X X h C S) (ht : tys[0]? = some (cJ, .long)) (ht1 : tys[1]? = some (cQ, .object "SignedMill$Whole")) (ht2 : tys[2]? = some (cZ, .boolean)) (ht3 : tys[3]? = some (cI, .int)) (hk : k + C ≤ 600000) (hn : n + S ≤ 7302250) (hi : i + 6 ≤ L) (NX : nxL cJ cQ cZ cI ad q D A H0 G i bs) : vx_V D vcl A H0 4 G h k n 625 [(3, .int (nI i)), (2, .ref (q 0)), (1, .ref (ad 30)), (0, .ref bs)] [] := by
  obtain ⟨fs, ho⟩ := jm_oM J
  obtain ⟨P, eP⟩ : ∃ P : Int32 × (Nat → Int), P = sp2 0 X (fun d a => kp X d (shZ (X a) (xs (i + 3)))) (xs (i + 1)) (xs (i + 2)) := ⟨_, rfl⟩
  refine vx_aload_n IG dc_L_law_625 rfl 2 rfl ?_
  refine vx_aload_n IG dc_L_law_626 rfl 3 rfl ?_
  refine vx_iload_n IG dc_L_law_627 rfl 0 rfl ?_
  refine vx_iconst (v := 1) IG dc_L_law_628 (by decide) ?_
  refine vx_iadd IG dc_L_law_629 ?_
  refine vx_topi (y := nI (i + 1)) (nI_add _ _) ?_
  refine SL.1 _ _ _ _ _ _ _ (by omega) dc_L_law_630 ?_
  refine vx_aload_n IG dc_L_law_631 rfl 3 rfl ?_
  refine vx_iload_n IG dc_L_law_632 rfl 0 rfl ?_
  refine vx_iconst (v := 2) IG dc_L_law_633 (by decide) ?_
  refine vx_iadd IG dc_L_law_634 ?_
  refine vx_topi (y := nI (i + 2)) (nI_add _ _) ?_
  refine SL.1 _ _ _ _ _ _ _ (by omega) dc_L_law_635 ?_
  refine vx_aload_n IG dc_L_law_636 rfl 3 rfl ?_
  refine vx_iload_n IG dc_L_law_637 rfl 0 rfl ?_
  refine vx_iconst (v := 3) IG dc_L_law_638 (by decide) ?_
  refine vx_iadd IG dc_L_law_639 ?_
  refine vx_topi (y := nI (i + 3)) (nI_add _ _) ?_
  refine SL.1 _ _ _ _ _ _ _ (by omega) dc_L_law_640 ?_
  refine vx_callV (As := [.int (xs (i + 1)), .int (xs (i + 2)), .int (xs (i + 3))]) (st := []) IG lw_good (jM_shift J ht ht1 ht2 ht3 (xs (i + 1)) (xs (i + 2)) (xs (i + 3)) eP) ho rfl wC_M_shift wL_L_57 wI_M_shift wS_M_shift wX_M 3 (by decide +kernel) rfl ⟨Nat.le_of_ble_eq_true rfl, Nat.le_of_ble_eq_true rfl⟩ ⟨(show k + C ≤ 600000 from hk), (show n + S ≤ 7302250 from hn)⟩ rfl (Nat.le_of_ble_eq_true rfl) dc_L_law_641 (fun v h k_ n_ hq => ?_)
  obtain ⟨rfl, C1, S1, J1, hk1, hn1⟩ := hq
  show vx_V _ _ _ _ _ _ _ _ _ 644 [(3, .int (nI i)), (2, .ref (q 0)), (1, .ref (ad 30)), (0, .ref bs)] [.int P.1]
  refine vx_aload_n IG dc_L_law_644 rfl 1 rfl ?_
  refine vx_aload_n IG dc_L_law_645 rfl 3 rfl ?_
  refine vx_iload_n IG dc_L_law_646 rfl 0 rfl ?_
  refine vx_iconst (v := 1) IG dc_L_law_647 (by decide) ?_
  refine vx_iadd IG dc_L_law_648 ?_
  refine vx_topi (y := nI (i + 1)) (nI_add _ _) ?_
  refine SL.1 _ _ _ _ _ _ _ (by omega) dc_L_law_649 ?_
  refine vx_aload_n IG dc_L_law_650 rfl 3 rfl ?_
  refine vx_iload_n IG dc_L_law_651 rfl 0 rfl ?_
  refine vx_iconst (v := 2) IG dc_L_law_652 (by decide) ?_
  refine vx_iadd IG dc_L_law_653 ?_
  refine vx_topi (y := nI (i + 2)) (nI_add _ _) ?_
  refine SL.1 _ _ _ _ _ _ _ (by omega) dc_L_law_654 ?_
  refine vx_aload_n IG dc_L_law_655 rfl 3 rfl ?_
  refine vx_iload_n IG dc_L_law_656 rfl 0 rfl ?_
  refine vx_iconst (v := 3) IG dc_L_law_657 (by decide) ?_
  refine vx_iadd IG dc_L_law_658 ?_
  refine vx_topi (y := nI (i + 3)) (nI_add _ _) ?_
  refine SL.1 _ _ _ _ _ _ _ (by omega) dc_L_law_659 ?_
  refine vx_callV (As := [.int (xs (i + 1)), .int (xs (i + 2)), .int (xs (i + 3))]) (st := [.int P.1]) IG lw_good (jR_shift J1 ht ht1 ht2 ht3 (xs (i + 1)) (xs (i + 2)) (xs (i + 3)) eP) (jm_oR J1) rfl wC_R_shift wL_L_60 wI_R_shift wS_R_shift wX_R 3 (by decide +kernel) rfl ⟨Nat.le_of_ble_eq_true rfl, Nat.le_of_ble_eq_true rfl⟩ ⟨(by show _ + 0 ≤ 600000; omega), (by show _ + 0 ≤ 7302250; omega)⟩ rfl (Nat.le_of_ble_eq_true rfl) dc_L_law_660 (fun v h k_ n_ hq => ?_)
  obtain ⟨rfl, rfl, rfl, J2⟩ := hq
  show vx_V _ _ _ _ _ _ _ _ _ 663 [(3, .int (nI i)), (2, .ref (q 0)), (1, .ref (ad 30)), (0, .ref bs)] [.int P.1, .int P.1]
  refine vx_icmp_eq (tgt := 1061) IG dc_L_law_663 (by decide) (fun _ => ?_) (fun c_ => absurd rfl c_)
  exact NX P.2 h C1 S1 _ _ J2 (by omega) (by omega)
theorem jM_change (J : JM cJ cQ cZ cI ad q X X h C S) (ht : tys[0]? = some (cJ, .long)) (ht1 : tys[1]? = some (cQ, .object "SignedMill$Whole")) (ht2 : tys[2]? = some (cZ, .boolean)) (ht3 : tys[3]? = some (cI, .int)) (r1 r2 n how : Int32) (eP : P = sp2 0 X (chF X n how) r1 r2) : vx_M l D vcl tys my_M_change lw_gd (rm_ 7 C S 159) [.ref (ad 30), .int r1, .int r2, .int n, .int how] h (jpost cJ cQ cZ cI ad q X P.2 C S P.1) := jm_M J (fun r0 W LY HM => by rw [eP]; exact cM_change LY HM ht ht1 ht2 r1 r2 n how)
theorem jR_change (J : JM cJ cQ cZ cI ad q X P.2 h C S) (ht : tys[0]? = some (cJ, .long)) (ht1 : tys[1]? = some (cQ, .object "SignedMill$Whole")) (ht2 : tys[2]? = some (cZ, .boolean)) (ht3 : tys[3]? = some (cI, .int)) (r1 r2 p how : Int32) (eP : P = sp2 0 X (chF X p how) r1 r2) : vx_M l D vcl tys my_R_change lw_gd (rm_ 4 0 0 96) [.ref (q 0), .int r1, .int r2, .int p, .int how] h (jpostR cJ cQ cZ cI ad q P.2 C S P.1) := jm_R J (fun h0 f g s V LR HP HX => by rw [eP]; exact cR_change LR ht2 ht3 HP HX r1 r2 p how)
set_option maxRecDepth 100000 in
set_option maxHeartbeats 8000000 in
theorem lc_change (IG : vx_I l D vcl tys room_1 "SignedMillLaw" bc_L_law 4 lw_gd false A H0 G) (SL : scR D A H0 G bs L xs) (J : JM cJ cQ cZ cI ad q X X h C S) (ht : tys[0]? = some (cJ, .long)) (ht1 : tys[1]? = some (cQ, .object "SignedMill$Whole")) (ht2 : tys[2]? = some (cZ, .boolean)) (ht3 : tys[3]? = some (cI, .int)) (hk : k + C ≤ 600000) (hn : n + S ≤ 7302250) (hi : i + 6 ≤ L) (NX : nxL cJ cQ cZ cI ad q D A H0 G i bs) : vx_V D vcl A H0 4 G h k n 668 [(3, .int (nI i)), (2, .ref (q 0)), (1, .ref (ad 30)), (0, .ref bs)] [] := by
  obtain ⟨fs, ho⟩ := jm_oM J
  obtain ⟨P, eP⟩ : ∃ P : Int32 × (Nat → Int), P = sp2 0 X (chF X (xs (i + 3)) (xs (i + 4))) (xs (i + 1)) (xs (i + 2)) := ⟨_, rfl⟩
  refine vx_aload_n IG dc_L_law_668 rfl 2 rfl ?_
  refine vx_aload_n IG dc_L_law_669 rfl 3 rfl ?_
  refine vx_iload_n IG dc_L_law_670 rfl 0 rfl ?_
  refine vx_iconst (v := 1) IG dc_L_law_671 (by decide) ?_
  refine vx_iadd IG dc_L_law_672 ?_
  refine vx_topi (y := nI (i + 1)) (nI_add _ _) ?_
  refine SL.1 _ _ _ _ _ _ _ (by omega) dc_L_law_673 ?_
  refine vx_aload_n IG dc_L_law_674 rfl 3 rfl ?_
  refine vx_iload_n IG dc_L_law_675 rfl 0 rfl ?_
  refine vx_iconst (v := 2) IG dc_L_law_676 (by decide) ?_
  refine vx_iadd IG dc_L_law_677 ?_
  refine vx_topi (y := nI (i + 2)) (nI_add _ _) ?_
  refine SL.1 _ _ _ _ _ _ _ (by omega) dc_L_law_678 ?_
  refine vx_aload_n IG dc_L_law_679 rfl 3 rfl ?_
  refine vx_iload_n IG dc_L_law_680 rfl 0 rfl ?_
  refine vx_iconst (v := 3) IG dc_L_law_681 (by decide) ?_
  refine vx_iadd IG dc_L_law_682 ?_
  refine vx_topi (y := nI (i + 3)) (nI_add _ _) ?_
  refine SL.1 _ _ _ _ _ _ _ (by omega) dc_L_law_683 ?_
  refine vx_aload_n IG dc_L_law_684 rfl 3 rfl ?_
  refine vx_iload_n IG dc_L_law_685 rfl 0 rfl ?_
  refine vx_iconst (v := 4) IG dc_L_law_686 (by decide) ?_
  refine vx_iadd IG dc_L_law_687 ?_
  refine vx_topi (y := nI (i + 4)) (nI_add _ _) ?_
  refine SL.1 _ _ _ _ _ _ _ (by omega) dc_L_law_688 ?_
  refine vx_callV (As := [.int (xs (i + 1)), .int (xs (i + 2)), .int (xs (i + 3)), .int (xs (i + 4))]) (st := []) IG lw_good (jM_change J ht ht1 ht2 ht3 (xs (i + 1)) (xs (i + 2)) (xs (i + 3)) (xs (i + 4)) eP) ho rfl wC_M_change wL_L_61 wI_M_change wS_M_change wX_M 4 (by decide +kernel) rfl ⟨Nat.le_of_ble_eq_true rfl, Nat.le_of_ble_eq_true rfl⟩ ⟨(show k + C ≤ 600000 from hk), (show n + S ≤ 7302250 from hn)⟩ rfl (Nat.le_of_ble_eq_true rfl) dc_L_law_689 (fun v h k_ n_ hq => ?_)
  obtain ⟨rfl, C1, S1, J1, hk1, hn1⟩ := hq
  show vx_V _ _ _ _ _ _ _ _ _ 692 [(3, .int (nI i)), (2, .ref (q 0)), (1, .ref (ad 30)), (0, .ref bs)] [.int P.1]
  refine vx_aload_n IG dc_L_law_692 rfl 1 rfl ?_
  refine vx_aload_n IG dc_L_law_693 rfl 3 rfl ?_
  refine vx_iload_n IG dc_L_law_694 rfl 0 rfl ?_
  refine vx_iconst (v := 1) IG dc_L_law_695 (by decide) ?_
  refine vx_iadd IG dc_L_law_696 ?_
  refine vx_topi (y := nI (i + 1)) (nI_add _ _) ?_
  refine SL.1 _ _ _ _ _ _ _ (by omega) dc_L_law_697 ?_
  refine vx_aload_n IG dc_L_law_698 rfl 3 rfl ?_
  refine vx_iload_n IG dc_L_law_699 rfl 0 rfl ?_
  refine vx_iconst (v := 2) IG dc_L_law_700 (by decide) ?_
  refine vx_iadd IG dc_L_law_701 ?_
  refine vx_topi (y := nI (i + 2)) (nI_add _ _) ?_
  refine SL.1 _ _ _ _ _ _ _ (by omega) dc_L_law_702 ?_
  refine vx_aload_n IG dc_L_law_703 rfl 3 rfl ?_
  refine vx_iload_n IG dc_L_law_704 rfl 0 rfl ?_
  refine vx_iconst (v := 3) IG dc_L_law_705 (by decide) ?_
  refine vx_iadd IG dc_L_law_706 ?_
  refine vx_topi (y := nI (i + 3)) (nI_add _ _) ?_
  refine SL.1 _ _ _ _ _ _ _ (by omega) dc_L_law_707 ?_
  refine vx_aload_n IG dc_L_law_708 rfl 3 rfl ?_
  refine vx_iload_n IG dc_L_law_709 rfl 0 rfl ?_
  refine vx_iconst (v := 4) IG dc_L_law_710 (by decide) ?_
  refine vx_iadd IG dc_L_law_711 ?_
  refine vx_topi (y := nI (i + 4)) (nI_add _ _) ?_
  refine SL.1 _ _ _ _ _ _ _ (by omega) dc_L_law_712 ?_
  refine vx_callV (As := [.int (xs (i + 1)), .int (xs (i + 2)), .int (xs (i + 3)), .int (xs (i + 4))]) (st := [.int P.1]) IG lw_good (jR_change J1 ht ht1 ht2 ht3 (xs (i + 1)) (xs (i + 2)) (xs (i + 3)) (xs (i + 4)) eP) (jm_oR J1) rfl wC_R_change wL_L_64 wI_R_change wS_R_change wX_R 4 (by decide +kernel) rfl ⟨Nat.le_of_ble_eq_true rfl, Nat.le_of_ble_eq_true rfl⟩ ⟨(by show _ + 0 ≤ 600000; omega), (by show _ + 0 ≤ 7302250; omega)⟩ rfl (Nat.le_of_ble_eq_true rfl) dc_L_law_713 (fun v h k_ n_ hq => ?_)
  obtain ⟨rfl, rfl, rfl, J2⟩ := hq
  show vx_V _ _ _ _ _ _ _ _ _ 716 [(3, .int (nI i)), (2, .ref (q 0)), (1, .ref (ad 30)), (0, .ref bs)] [.int P.1, .int P.1]
  refine vx_icmp_eq (tgt := 1061) IG dc_L_law_716 (by decide) (fun _ => ?_) (fun c_ => absurd rfl c_)
  exact NX P.2 h C1 S1 _ _ J2 (by omega) (by omega)
theorem jM_power (J : JM cJ cQ cZ cI ad q X X h C S) (ht : tys[0]? = some (cJ, .long)) (ht1 : tys[1]? = some (cQ, .object "SignedMill$Whole")) (ht2 : tys[2]? = some (cZ, .boolean)) (ht3 : tys[3]? = some (cI, .int)) (r1 r2 p : Int32) (eP : P = sp2 0 X (pwF X p) r1 r2) : vx_M l D vcl tys my_M_power lw_gd (rm_ 7 C S 156) [.ref (ad 30), .int r1, .int r2, .int p] h (jpost cJ cQ cZ cI ad q X P.2 C S P.1) := jm_M J (fun r0 W LY HM => by rw [eP]; exact cM_power LY HM ht ht1 ht2 r1 r2 p)
theorem jR_power (J : JM cJ cQ cZ cI ad q X P.2 h C S) (ht : tys[0]? = some (cJ, .long)) (ht1 : tys[1]? = some (cQ, .object "SignedMill$Whole")) (ht2 : tys[2]? = some (cZ, .boolean)) (ht3 : tys[3]? = some (cI, .int)) (r1 r2 p : Int32) (eP : P = sp2 0 X (pwF X p) r1 r2) : vx_M l D vcl tys my_R_power lw_gd (rm_ 3 0 0 75) [.ref (q 0), .int r1, .int r2, .int p] h (jpostR cJ cQ cZ cI ad q P.2 C S P.1) := jm_R J (fun h0 f g s V LR HP HX => by rw [eP]; exact cR_power LR ht2 ht3 HP HX r1 r2 p)
set_option maxRecDepth 100000 in
set_option maxHeartbeats 8000000 in
theorem lc_power (IG : vx_I l D vcl tys room_1 "SignedMillLaw" bc_L_law 4 lw_gd false A H0 G) (SL : scR D A H0 G bs L xs) (J : JM cJ cQ cZ cI ad q X X h C S) (ht : tys[0]? = some (cJ, .long)) (ht1 : tys[1]? = some (cQ, .object "SignedMill$Whole")) (ht2 : tys[2]? = some (cZ, .boolean)) (ht3 : tys[3]? = some (cI, .int)) (hk : k + C ≤ 600000) (hn : n + S ≤ 7302250) (hi : i + 6 ≤ L) (NX : nxL cJ cQ cZ cI ad q D A H0 G i bs) : vx_V D vcl A H0 4 G h k n 721 [(3, .int (nI i)), (2, .ref (q 0)), (1, .ref (ad 30)), (0, .ref bs)] [] := by
  obtain ⟨fs, ho⟩ := jm_oM J
  obtain ⟨P, eP⟩ : ∃ P : Int32 × (Nat → Int), P = sp2 0 X (pwF X (xs (i + 3))) (xs (i + 1)) (xs (i + 2)) := ⟨_, rfl⟩
  refine vx_aload_n IG dc_L_law_721 rfl 2 rfl ?_
  refine vx_aload_n IG dc_L_law_722 rfl 3 rfl ?_
  refine vx_iload_n IG dc_L_law_723 rfl 0 rfl ?_
  refine vx_iconst (v := 1) IG dc_L_law_724 (by decide) ?_
  refine vx_iadd IG dc_L_law_725 ?_
  refine vx_topi (y := nI (i + 1)) (nI_add _ _) ?_
  refine SL.1 _ _ _ _ _ _ _ (by omega) dc_L_law_726 ?_
  refine vx_aload_n IG dc_L_law_727 rfl 3 rfl ?_
  refine vx_iload_n IG dc_L_law_728 rfl 0 rfl ?_
  refine vx_iconst (v := 2) IG dc_L_law_729 (by decide) ?_
  refine vx_iadd IG dc_L_law_730 ?_
  refine vx_topi (y := nI (i + 2)) (nI_add _ _) ?_
  refine SL.1 _ _ _ _ _ _ _ (by omega) dc_L_law_731 ?_
  refine vx_aload_n IG dc_L_law_732 rfl 3 rfl ?_
  refine vx_iload_n IG dc_L_law_733 rfl 0 rfl ?_
  refine vx_iconst (v := 3) IG dc_L_law_734 (by decide) ?_
  refine vx_iadd IG dc_L_law_735 ?_
  refine vx_topi (y := nI (i + 3)) (nI_add _ _) ?_
  refine SL.1 _ _ _ _ _ _ _ (by omega) dc_L_law_736 ?_
  refine vx_callV (As := [.int (xs (i + 1)), .int (xs (i + 2)), .int (xs (i + 3))]) (st := []) IG lw_good (jM_power J ht ht1 ht2 ht3 (xs (i + 1)) (xs (i + 2)) (xs (i + 3)) eP) ho rfl wC_M_power wL_L_65 wI_M_power wS_M_power wX_M 3 (by decide +kernel) rfl ⟨Nat.le_of_ble_eq_true rfl, Nat.le_of_ble_eq_true rfl⟩ ⟨(show k + C ≤ 600000 from hk), (show n + S ≤ 7302250 from hn)⟩ rfl (Nat.le_of_ble_eq_true rfl) dc_L_law_737 (fun v h k_ n_ hq => ?_)
  obtain ⟨rfl, C1, S1, J1, hk1, hn1⟩ := hq
  show vx_V _ _ _ _ _ _ _ _ _ 740 [(3, .int (nI i)), (2, .ref (q 0)), (1, .ref (ad 30)), (0, .ref bs)] [.int P.1]
  refine vx_aload_n IG dc_L_law_740 rfl 1 rfl ?_
  refine vx_aload_n IG dc_L_law_741 rfl 3 rfl ?_
  refine vx_iload_n IG dc_L_law_742 rfl 0 rfl ?_
  refine vx_iconst (v := 1) IG dc_L_law_743 (by decide) ?_
  refine vx_iadd IG dc_L_law_744 ?_
  refine vx_topi (y := nI (i + 1)) (nI_add _ _) ?_
  refine SL.1 _ _ _ _ _ _ _ (by omega) dc_L_law_745 ?_
  refine vx_aload_n IG dc_L_law_746 rfl 3 rfl ?_
  refine vx_iload_n IG dc_L_law_747 rfl 0 rfl ?_
  refine vx_iconst (v := 2) IG dc_L_law_748 (by decide) ?_
  refine vx_iadd IG dc_L_law_749 ?_
  refine vx_topi (y := nI (i + 2)) (nI_add _ _) ?_
  refine SL.1 _ _ _ _ _ _ _ (by omega) dc_L_law_750 ?_
  refine vx_aload_n IG dc_L_law_751 rfl 3 rfl ?_
  refine vx_iload_n IG dc_L_law_752 rfl 0 rfl ?_
  refine vx_iconst (v := 3) IG dc_L_law_753 (by decide) ?_
  refine vx_iadd IG dc_L_law_754 ?_
  refine vx_topi (y := nI (i + 3)) (nI_add _ _) ?_
  refine SL.1 _ _ _ _ _ _ _ (by omega) dc_L_law_755 ?_
  refine vx_callV (As := [.int (xs (i + 1)), .int (xs (i + 2)), .int (xs (i + 3))]) (st := [.int P.1]) IG lw_good (jR_power J1 ht ht1 ht2 ht3 (xs (i + 1)) (xs (i + 2)) (xs (i + 3)) eP) (jm_oR J1) rfl wC_R_power wL_L_68 wI_R_power wS_R_power wX_R 3 (by decide +kernel) rfl ⟨Nat.le_of_ble_eq_true rfl, Nat.le_of_ble_eq_true rfl⟩ ⟨(by show _ + 0 ≤ 600000; omega), (by show _ + 0 ≤ 7302250; omega)⟩ rfl (Nat.le_of_ble_eq_true rfl) dc_L_law_756 (fun v h k_ n_ hq => ?_)
  obtain ⟨rfl, rfl, rfl, J2⟩ := hq
  show vx_V _ _ _ _ _ _ _ _ _ 759 [(3, .int (nI i)), (2, .ref (q 0)), (1, .ref (ad 30)), (0, .ref bs)] [.int P.1, .int P.1]
  refine vx_icmp_eq (tgt := 1061) IG dc_L_law_759 (by decide) (fun _ => ?_) (fun c_ => absurd rfl c_)
  exact NX P.2 h C1 S1 _ _ J2 (by omega) (by omega)
theorem jM_common (J : JM cJ cQ cZ cI ad q X X h C S) (ht : tys[0]? = some (cJ, .long)) (ht1 : tys[1]? = some (cQ, .object "SignedMill$Whole")) (ht2 : tys[2]? = some (cZ, .boolean)) (ht3 : tys[3]? = some (cI, .int)) (r1 r2 r3 : Int32) (eP : P = sp3 0 X (fun d a b => kp X d (Nat.gcd (X a).natAbs (X b).natAbs : Nat)) r1 r2 r3) : vx_M l D vcl tys my_M_common lw_gd (rm_ 7 C S 157) [.ref (ad 30), .int r1, .int r2, .int r3] h (jpost cJ cQ cZ cI ad q X P.2 C S P.1) := jm_M J (fun r0 W LY HM => by rw [eP]; exact cM_common LY HM ht ht1 ht2 r1 r2 r3)
theorem jR_common (J : JM cJ cQ cZ cI ad q X P.2 h C S) (ht : tys[0]? = some (cJ, .long)) (ht1 : tys[1]? = some (cQ, .object "SignedMill$Whole")) (ht2 : tys[2]? = some (cZ, .boolean)) (ht3 : tys[3]? = some (cI, .int)) (r1 r2 r3 : Int32) (eP : P = sp3 0 X (fun d a b => kp X d (Nat.gcd (X a).natAbs (X b).natAbs : Nat)) r1 r2 r3) : vx_M l D vcl tys my_R_common lw_gd (rm_ 4 0 0 98) [.ref (q 0), .int r1, .int r2, .int r3] h (jpostR cJ cQ cZ cI ad q P.2 C S P.1) := jm_R J (fun h0 f g s V LR HP HX => by rw [eP]; exact cR_common LR ht2 ht3 HP HX r1 r2 r3)
set_option maxRecDepth 100000 in
set_option maxHeartbeats 8000000 in
theorem lc_common (IG : vx_I l D vcl tys room_1 "SignedMillLaw" bc_L_law 4 lw_gd false A H0 G) (SL : scR D A H0 G bs L xs) (J : JM cJ cQ cZ cI ad q X X h C S) (ht : tys[0]? = some (cJ, .long)) (ht1 : tys[1]? = some (cQ, .object "SignedMill$Whole")) (ht2 : tys[2]? = some (cZ, .boolean)) (ht3 : tys[3]? = some (cI, .int)) (hk : k + C ≤ 600000) (hn : n + S ≤ 7302250) (hi : i + 6 ≤ L) (NX : nxL cJ cQ cZ cI ad q D A H0 G i bs) : vx_V D vcl A H0 4 G h k n 764 [(3, .int (nI i)), (2, .ref (q 0)), (1, .ref (ad 30)), (0, .ref bs)] [] := by
  obtain ⟨fs, ho⟩ := jm_oM J
  obtain ⟨P, eP⟩ : ∃ P : Int32 × (Nat → Int), P = sp3 0 X (fun d a b => kp X d (Nat.gcd (X a).natAbs (X b).natAbs : Nat)) (xs (i + 1)) (xs (i + 2)) (xs (i + 3)) := ⟨_, rfl⟩
  refine vx_aload_n IG dc_L_law_764 rfl 2 rfl ?_
  refine vx_aload_n IG dc_L_law_765 rfl 3 rfl ?_
  refine vx_iload_n IG dc_L_law_766 rfl 0 rfl ?_
  refine vx_iconst (v := 1) IG dc_L_law_767 (by decide) ?_
  refine vx_iadd IG dc_L_law_768 ?_
  refine vx_topi (y := nI (i + 1)) (nI_add _ _) ?_
  refine SL.1 _ _ _ _ _ _ _ (by omega) dc_L_law_769 ?_
  refine vx_aload_n IG dc_L_law_770 rfl 3 rfl ?_
  refine vx_iload_n IG dc_L_law_771 rfl 0 rfl ?_
  refine vx_iconst (v := 2) IG dc_L_law_772 (by decide) ?_
  refine vx_iadd IG dc_L_law_773 ?_
  refine vx_topi (y := nI (i + 2)) (nI_add _ _) ?_
  refine SL.1 _ _ _ _ _ _ _ (by omega) dc_L_law_774 ?_
  refine vx_aload_n IG dc_L_law_775 rfl 3 rfl ?_
  refine vx_iload_n IG dc_L_law_776 rfl 0 rfl ?_
  refine vx_iconst (v := 3) IG dc_L_law_777 (by decide) ?_
  refine vx_iadd IG dc_L_law_778 ?_
  refine vx_topi (y := nI (i + 3)) (nI_add _ _) ?_
  refine SL.1 _ _ _ _ _ _ _ (by omega) dc_L_law_779 ?_
  refine vx_callV (As := [.int (xs (i + 1)), .int (xs (i + 2)), .int (xs (i + 3))]) (st := []) IG lw_good (jM_common J ht ht1 ht2 ht3 (xs (i + 1)) (xs (i + 2)) (xs (i + 3)) eP) ho rfl wC_M_common wL_L_69 wI_M_common wS_M_common wX_M 3 (by decide +kernel) rfl ⟨Nat.le_of_ble_eq_true rfl, Nat.le_of_ble_eq_true rfl⟩ ⟨(show k + C ≤ 600000 from hk), (show n + S ≤ 7302250 from hn)⟩ rfl (Nat.le_of_ble_eq_true rfl) dc_L_law_780 (fun v h k_ n_ hq => ?_)
  obtain ⟨rfl, C1, S1, J1, hk1, hn1⟩ := hq
  show vx_V _ _ _ _ _ _ _ _ _ 783 [(3, .int (nI i)), (2, .ref (q 0)), (1, .ref (ad 30)), (0, .ref bs)] [.int P.1]
  refine vx_aload_n IG dc_L_law_783 rfl 1 rfl ?_
  refine vx_aload_n IG dc_L_law_784 rfl 3 rfl ?_
  refine vx_iload_n IG dc_L_law_785 rfl 0 rfl ?_
  refine vx_iconst (v := 1) IG dc_L_law_786 (by decide) ?_
  refine vx_iadd IG dc_L_law_787 ?_
  refine vx_topi (y := nI (i + 1)) (nI_add _ _) ?_
  refine SL.1 _ _ _ _ _ _ _ (by omega) dc_L_law_788 ?_
  refine vx_aload_n IG dc_L_law_789 rfl 3 rfl ?_
  refine vx_iload_n IG dc_L_law_790 rfl 0 rfl ?_
  refine vx_iconst (v := 2) IG dc_L_law_791 (by decide) ?_
  refine vx_iadd IG dc_L_law_792 ?_
  refine vx_topi (y := nI (i + 2)) (nI_add _ _) ?_
  refine SL.1 _ _ _ _ _ _ _ (by omega) dc_L_law_793 ?_
  refine vx_aload_n IG dc_L_law_794 rfl 3 rfl ?_
  refine vx_iload_n IG dc_L_law_795 rfl 0 rfl ?_
  refine vx_iconst (v := 3) IG dc_L_law_796 (by decide) ?_
  refine vx_iadd IG dc_L_law_797 ?_
  refine vx_topi (y := nI (i + 3)) (nI_add _ _) ?_
  refine SL.1 _ _ _ _ _ _ _ (by omega) dc_L_law_798 ?_
  refine vx_callV (As := [.int (xs (i + 1)), .int (xs (i + 2)), .int (xs (i + 3))]) (st := [.int P.1]) IG lw_good (jR_common J1 ht ht1 ht2 ht3 (xs (i + 1)) (xs (i + 2)) (xs (i + 3)) eP) (jm_oR J1) rfl wC_R_common wL_L_72 wI_R_common wS_R_common wX_R 3 (by decide +kernel) rfl ⟨Nat.le_of_ble_eq_true rfl, Nat.le_of_ble_eq_true rfl⟩ ⟨(by show _ + 0 ≤ 600000; omega), (by show _ + 0 ≤ 7302250; omega)⟩ rfl (Nat.le_of_ble_eq_true rfl) dc_L_law_799 (fun v h k_ n_ hq => ?_)
  obtain ⟨rfl, rfl, rfl, J2⟩ := hq
  show vx_V _ _ _ _ _ _ _ _ _ 802 [(3, .int (nI i)), (2, .ref (q 0)), (1, .ref (ad 30)), (0, .ref bs)] [.int P.1, .int P.1]
  refine vx_icmp_eq (tgt := 1061) IG dc_L_law_802 (by decide) (fun _ => ?_) (fun c_ => absurd rfl c_)
  exact NX P.2 h C1 S1 _ _ J2 (by omega) (by omega)
theorem jM_inverse (J : JM cJ cQ cZ cI ad q X X h C S) (ht : tys[0]? = some (cJ, .long)) (ht1 : tys[1]? = some (cQ, .object "SignedMill$Whole")) (ht2 : tys[2]? = some (cZ, .boolean)) (ht3 : tys[3]? = some (cI, .int)) (r1 r2 r3 : Int32) (eP : P = sp3 0 X (ivF X) r1 r2 r3) : vx_M l D vcl tys my_M_inverse lw_gd (rm_ 8 C S 180) [.ref (ad 30), .int r1, .int r2, .int r3] h (jpost cJ cQ cZ cI ad q X P.2 C S P.1) := jm_M J (fun r0 W LY HM => by rw [eP]; exact cM_inverse LY HM ht ht1 ht2 r1 r2 r3)
theorem jR_inverse (J : JM cJ cQ cZ cI ad q X P.2 h C S) (ht : tys[0]? = some (cJ, .long)) (ht1 : tys[1]? = some (cQ, .object "SignedMill$Whole")) (ht2 : tys[2]? = some (cZ, .boolean)) (ht3 : tys[3]? = some (cI, .int)) (r1 r2 r3 : Int32) (eP : P = sp3 0 X (ivF X) r1 r2 r3) : vx_M l D vcl tys my_R_inverse lw_gd (rm_ 6 0 0 149) [.ref (q 0), .int r1, .int r2, .int r3] h (jpostR cJ cQ cZ cI ad q P.2 C S P.1) := jm_R J (fun h0 f g s V LR HP HX => by rw [eP]; exact cR_inverse LR ht2 ht3 HP HX r1 r2 r3)
set_option maxRecDepth 100000 in
set_option maxHeartbeats 8000000 in
theorem lc_inverse (IG : vx_I l D vcl tys room_1 "SignedMillLaw" bc_L_law 4 lw_gd false A H0 G) (SL : scR D A H0 G bs L xs) (J : JM cJ cQ cZ cI ad q X X h C S) (ht : tys[0]? = some (cJ, .long)) (ht1 : tys[1]? = some (cQ, .object "SignedMill$Whole")) (ht2 : tys[2]? = some (cZ, .boolean)) (ht3 : tys[3]? = some (cI, .int)) (hk : k + C ≤ 600000) (hn : n + S ≤ 7302250) (hi : i + 6 ≤ L) (NX : nxL cJ cQ cZ cI ad q D A H0 G i bs) : vx_V D vcl A H0 4 G h k n 807 [(3, .int (nI i)), (2, .ref (q 0)), (1, .ref (ad 30)), (0, .ref bs)] [] := by
  obtain ⟨fs, ho⟩ := jm_oM J
  obtain ⟨P, eP⟩ : ∃ P : Int32 × (Nat → Int), P = sp3 0 X (ivF X) (xs (i + 1)) (xs (i + 2)) (xs (i + 3)) := ⟨_, rfl⟩
  refine vx_aload_n IG dc_L_law_807 rfl 2 rfl ?_
  refine vx_aload_n IG dc_L_law_808 rfl 3 rfl ?_
  refine vx_iload_n IG dc_L_law_809 rfl 0 rfl ?_
  refine vx_iconst (v := 1) IG dc_L_law_810 (by decide) ?_
  refine vx_iadd IG dc_L_law_811 ?_
  refine vx_topi (y := nI (i + 1)) (nI_add _ _) ?_
  refine SL.1 _ _ _ _ _ _ _ (by omega) dc_L_law_812 ?_
  refine vx_aload_n IG dc_L_law_813 rfl 3 rfl ?_
  refine vx_iload_n IG dc_L_law_814 rfl 0 rfl ?_
  refine vx_iconst (v := 2) IG dc_L_law_815 (by decide) ?_
  refine vx_iadd IG dc_L_law_816 ?_
  refine vx_topi (y := nI (i + 2)) (nI_add _ _) ?_
  refine SL.1 _ _ _ _ _ _ _ (by omega) dc_L_law_817 ?_
  refine vx_aload_n IG dc_L_law_818 rfl 3 rfl ?_
  refine vx_iload_n IG dc_L_law_819 rfl 0 rfl ?_
  refine vx_iconst (v := 3) IG dc_L_law_820 (by decide) ?_
  refine vx_iadd IG dc_L_law_821 ?_
  refine vx_topi (y := nI (i + 3)) (nI_add _ _) ?_
  refine SL.1 _ _ _ _ _ _ _ (by omega) dc_L_law_822 ?_
  refine vx_callV (As := [.int (xs (i + 1)), .int (xs (i + 2)), .int (xs (i + 3))]) (st := []) IG lw_good (jM_inverse J ht ht1 ht2 ht3 (xs (i + 1)) (xs (i + 2)) (xs (i + 3)) eP) ho rfl wC_M_inverse wL_L_73 wI_M_inverse wS_M_inverse wX_M 3 (by decide +kernel) rfl ⟨Nat.le_of_ble_eq_true rfl, Nat.le_of_ble_eq_true rfl⟩ ⟨(show k + C ≤ 600000 from hk), (show n + S ≤ 7302250 from hn)⟩ rfl (Nat.le_of_ble_eq_true rfl) dc_L_law_823 (fun v h k_ n_ hq => ?_)
  obtain ⟨rfl, C1, S1, J1, hk1, hn1⟩ := hq
  show vx_V _ _ _ _ _ _ _ _ _ 826 [(3, .int (nI i)), (2, .ref (q 0)), (1, .ref (ad 30)), (0, .ref bs)] [.int P.1]
  refine vx_aload_n IG dc_L_law_826 rfl 1 rfl ?_
  refine vx_aload_n IG dc_L_law_827 rfl 3 rfl ?_
  refine vx_iload_n IG dc_L_law_828 rfl 0 rfl ?_
  refine vx_iconst (v := 1) IG dc_L_law_829 (by decide) ?_
  refine vx_iadd IG dc_L_law_830 ?_
  refine vx_topi (y := nI (i + 1)) (nI_add _ _) ?_
  refine SL.1 _ _ _ _ _ _ _ (by omega) dc_L_law_831 ?_
  refine vx_aload_n IG dc_L_law_832 rfl 3 rfl ?_
  refine vx_iload_n IG dc_L_law_833 rfl 0 rfl ?_
  refine vx_iconst (v := 2) IG dc_L_law_834 (by decide) ?_
  refine vx_iadd IG dc_L_law_835 ?_
  refine vx_topi (y := nI (i + 2)) (nI_add _ _) ?_
  refine SL.1 _ _ _ _ _ _ _ (by omega) dc_L_law_836 ?_
  refine vx_aload_n IG dc_L_law_837 rfl 3 rfl ?_
  refine vx_iload_n IG dc_L_law_838 rfl 0 rfl ?_
  refine vx_iconst (v := 3) IG dc_L_law_839 (by decide) ?_
  refine vx_iadd IG dc_L_law_840 ?_
  refine vx_topi (y := nI (i + 3)) (nI_add _ _) ?_
  refine SL.1 _ _ _ _ _ _ _ (by omega) dc_L_law_841 ?_
  refine vx_callV (As := [.int (xs (i + 1)), .int (xs (i + 2)), .int (xs (i + 3))]) (st := [.int P.1]) IG lw_good (jR_inverse J1 ht ht1 ht2 ht3 (xs (i + 1)) (xs (i + 2)) (xs (i + 3)) eP) (jm_oR J1) rfl wC_R_inverse wL_L_76 wI_R_inverse wS_R_inverse wX_R 3 (by decide +kernel) rfl ⟨Nat.le_of_ble_eq_true rfl, Nat.le_of_ble_eq_true rfl⟩ ⟨(by show _ + 0 ≤ 600000; omega), (by show _ + 0 ≤ 7302250; omega)⟩ rfl (Nat.le_of_ble_eq_true rfl) dc_L_law_842 (fun v h k_ n_ hq => ?_)
  obtain ⟨rfl, rfl, rfl, J2⟩ := hq
  show vx_V _ _ _ _ _ _ _ _ _ 845 [(3, .int (nI i)), (2, .ref (q 0)), (1, .ref (ad 30)), (0, .ref bs)] [.int P.1, .int P.1]
  refine vx_icmp_eq (tgt := 1061) IG dc_L_law_845 (by decide) (fun _ => ?_) (fun c_ => absurd rfl c_)
  exact NX P.2 h C1 S1 _ _ J2 (by omega) (by omega)
theorem jM_modulo (J : JM cJ cQ cZ cI ad q X X h C S) (ht : tys[0]? = some (cJ, .long)) (ht1 : tys[1]? = some (cQ, .object "SignedMill$Whole")) (ht2 : tys[2]? = some (cZ, .boolean)) (ht3 : tys[3]? = some (cI, .int)) (r1 r2 r3 r4 : Int32) (eP : P = sp4 0 X (mdF X) r1 r2 r3 r4) : vx_M l D vcl tys my_M_modulo lw_gd (rm_ 8 C S 180) [.ref (ad 30), .int r1, .int r2, .int r3, .int r4] h (jpost cJ cQ cZ cI ad q X P.2 C S P.1) := jm_M J (fun r0 W LY HM => by rw [eP]; exact cM_modulo LY HM ht ht1 ht2 r1 r2 r3 r4)
theorem jR_modulo (J : JM cJ cQ cZ cI ad q X P.2 h C S) (ht : tys[0]? = some (cJ, .long)) (ht1 : tys[1]? = some (cQ, .object "SignedMill$Whole")) (ht2 : tys[2]? = some (cZ, .boolean)) (ht3 : tys[3]? = some (cI, .int)) (r1 r2 r3 r4 : Int32) (eP : P = sp4 0 X (mdF X) r1 r2 r3 r4) : vx_M l D vcl tys my_R_modulo lw_gd (rm_ 6 0 0 149) [.ref (q 0), .int r1, .int r2, .int r3, .int r4] h (jpostR cJ cQ cZ cI ad q P.2 C S P.1) := jm_R J (fun h0 f g s V LR HP HX => by rw [eP]; exact cR_modulo LR ht2 ht3 HP HX r1 r2 r3 r4)
set_option maxRecDepth 100000 in
set_option maxHeartbeats 8000000 in
theorem lc_modulo (IG : vx_I l D vcl tys room_1 "SignedMillLaw" bc_L_law 4 lw_gd false A H0 G) (SL : scR D A H0 G bs L xs) (J : JM cJ cQ cZ cI ad q X X h C S) (ht : tys[0]? = some (cJ, .long)) (ht1 : tys[1]? = some (cQ, .object "SignedMill$Whole")) (ht2 : tys[2]? = some (cZ, .boolean)) (ht3 : tys[3]? = some (cI, .int)) (hk : k + C ≤ 600000) (hn : n + S ≤ 7302250) (hi : i + 6 ≤ L) (NX : nxL cJ cQ cZ cI ad q D A H0 G i bs) : vx_V D vcl A H0 4 G h k n 850 [(3, .int (nI i)), (2, .ref (q 0)), (1, .ref (ad 30)), (0, .ref bs)] [] := by
  obtain ⟨fs, ho⟩ := jm_oM J
  obtain ⟨P, eP⟩ : ∃ P : Int32 × (Nat → Int), P = sp4 0 X (mdF X) (xs (i + 1)) (xs (i + 2)) (xs (i + 3)) (xs (i + 4)) := ⟨_, rfl⟩
  refine vx_aload_n IG dc_L_law_850 rfl 2 rfl ?_
  refine vx_aload_n IG dc_L_law_851 rfl 3 rfl ?_
  refine vx_iload_n IG dc_L_law_852 rfl 0 rfl ?_
  refine vx_iconst (v := 1) IG dc_L_law_853 (by decide) ?_
  refine vx_iadd IG dc_L_law_854 ?_
  refine vx_topi (y := nI (i + 1)) (nI_add _ _) ?_
  refine SL.1 _ _ _ _ _ _ _ (by omega) dc_L_law_855 ?_
  refine vx_aload_n IG dc_L_law_856 rfl 3 rfl ?_
  refine vx_iload_n IG dc_L_law_857 rfl 0 rfl ?_
  refine vx_iconst (v := 2) IG dc_L_law_858 (by decide) ?_
  refine vx_iadd IG dc_L_law_859 ?_
  refine vx_topi (y := nI (i + 2)) (nI_add _ _) ?_
  refine SL.1 _ _ _ _ _ _ _ (by omega) dc_L_law_860 ?_
  refine vx_aload_n IG dc_L_law_861 rfl 3 rfl ?_
  refine vx_iload_n IG dc_L_law_862 rfl 0 rfl ?_
  refine vx_iconst (v := 3) IG dc_L_law_863 (by decide) ?_
  refine vx_iadd IG dc_L_law_864 ?_
  refine vx_topi (y := nI (i + 3)) (nI_add _ _) ?_
  refine SL.1 _ _ _ _ _ _ _ (by omega) dc_L_law_865 ?_
  refine vx_aload_n IG dc_L_law_866 rfl 3 rfl ?_
  refine vx_iload_n IG dc_L_law_867 rfl 0 rfl ?_
  refine vx_iconst (v := 4) IG dc_L_law_868 (by decide) ?_
  refine vx_iadd IG dc_L_law_869 ?_
  refine vx_topi (y := nI (i + 4)) (nI_add _ _) ?_
  refine SL.1 _ _ _ _ _ _ _ (by omega) dc_L_law_870 ?_
  refine vx_callV (As := [.int (xs (i + 1)), .int (xs (i + 2)), .int (xs (i + 3)), .int (xs (i + 4))]) (st := []) IG lw_good (jM_modulo J ht ht1 ht2 ht3 (xs (i + 1)) (xs (i + 2)) (xs (i + 3)) (xs (i + 4)) eP) ho rfl wC_M_modulo wL_L_77 wI_M_modulo wS_M_modulo wX_M 4 (by decide +kernel) rfl ⟨Nat.le_of_ble_eq_true rfl, Nat.le_of_ble_eq_true rfl⟩ ⟨(show k + C ≤ 600000 from hk), (show n + S ≤ 7302250 from hn)⟩ rfl (Nat.le_of_ble_eq_true rfl) dc_L_law_871 (fun v h k_ n_ hq => ?_)
  obtain ⟨rfl, C1, S1, J1, hk1, hn1⟩ := hq
  show vx_V _ _ _ _ _ _ _ _ _ 874 [(3, .int (nI i)), (2, .ref (q 0)), (1, .ref (ad 30)), (0, .ref bs)] [.int P.1]
  refine vx_aload_n IG dc_L_law_874 rfl 1 rfl ?_
  refine vx_aload_n IG dc_L_law_875 rfl 3 rfl ?_
  refine vx_iload_n IG dc_L_law_876 rfl 0 rfl ?_
  refine vx_iconst (v := 1) IG dc_L_law_877 (by decide) ?_
  refine vx_iadd IG dc_L_law_878 ?_
  refine vx_topi (y := nI (i + 1)) (nI_add _ _) ?_
  refine SL.1 _ _ _ _ _ _ _ (by omega) dc_L_law_879 ?_
  refine vx_aload_n IG dc_L_law_880 rfl 3 rfl ?_
  refine vx_iload_n IG dc_L_law_881 rfl 0 rfl ?_
  refine vx_iconst (v := 2) IG dc_L_law_882 (by decide) ?_
  refine vx_iadd IG dc_L_law_883 ?_
  refine vx_topi (y := nI (i + 2)) (nI_add _ _) ?_
  refine SL.1 _ _ _ _ _ _ _ (by omega) dc_L_law_884 ?_
  refine vx_aload_n IG dc_L_law_885 rfl 3 rfl ?_
  refine vx_iload_n IG dc_L_law_886 rfl 0 rfl ?_
  refine vx_iconst (v := 3) IG dc_L_law_887 (by decide) ?_
  refine vx_iadd IG dc_L_law_888 ?_
  refine vx_topi (y := nI (i + 3)) (nI_add _ _) ?_
  refine SL.1 _ _ _ _ _ _ _ (by omega) dc_L_law_889 ?_
  refine vx_aload_n IG dc_L_law_890 rfl 3 rfl ?_
  refine vx_iload_n IG dc_L_law_891 rfl 0 rfl ?_
  refine vx_iconst (v := 4) IG dc_L_law_892 (by decide) ?_
  refine vx_iadd IG dc_L_law_893 ?_
  refine vx_topi (y := nI (i + 4)) (nI_add _ _) ?_
  refine SL.1 _ _ _ _ _ _ _ (by omega) dc_L_law_894 ?_
  refine vx_callV (As := [.int (xs (i + 1)), .int (xs (i + 2)), .int (xs (i + 3)), .int (xs (i + 4))]) (st := [.int P.1]) IG lw_good (jR_modulo J1 ht ht1 ht2 ht3 (xs (i + 1)) (xs (i + 2)) (xs (i + 3)) (xs (i + 4)) eP) (jm_oR J1) rfl wC_R_modulo wL_L_80 wI_R_modulo wS_R_modulo wX_R 4 (by decide +kernel) rfl ⟨Nat.le_of_ble_eq_true rfl, Nat.le_of_ble_eq_true rfl⟩ ⟨(by show _ + 0 ≤ 600000; omega), (by show _ + 0 ≤ 7302250; omega)⟩ rfl (Nat.le_of_ble_eq_true rfl) dc_L_law_895 (fun v h k_ n_ hq => ?_)
  obtain ⟨rfl, rfl, rfl, J2⟩ := hq
  show vx_V _ _ _ _ _ _ _ _ _ 898 [(3, .int (nI i)), (2, .ref (q 0)), (1, .ref (ad 30)), (0, .ref bs)] [.int P.1, .int P.1]
  refine vx_icmp_eq (tgt := 1061) IG dc_L_law_898 (by decide) (fun _ => ?_) (fun c_ => absurd rfl c_)
  exact NX P.2 h C1 S1 _ _ J2 (by omega) (by omega)
theorem jM_compare (J : JM cJ cQ cZ cI ad q X X h C S) (ht : tys[0]? = some (cJ, .long)) (ht1 : tys[1]? = some (cQ, .object "SignedMill$Whole")) (ht2 : tys[2]? = some (cZ, .boolean)) (ht3 : tys[3]? = some (cI, .int)) (r1 r2 : Int32) (eP : P = sp2 (-2) X (fun a b => (cmpZ (X a) (X b), X)) r1 r2) : vx_M l D vcl tys my_M_compare lw_gd (rm_ 2 C S 42) [.ref (ad 30), .int r1, .int r2] h (jpost cJ cQ cZ cI ad q X P.2 C S P.1) := jm_M J (fun r0 W LY HM => by rw [eP]; exact cM_compare LY HM ht ht1 ht2 r1 r2)
theorem jR_compare (J : JM cJ cQ cZ cI ad q X P.2 h C S) (ht : tys[0]? = some (cJ, .long)) (ht1 : tys[1]? = some (cQ, .object "SignedMill$Whole")) (ht2 : tys[2]? = some (cZ, .boolean)) (ht3 : tys[3]? = some (cI, .int)) (r1 r2 : Int32) (eP : P = sp2 (-2) X (fun a b => (cmpZ (X a) (X b), X)) r1 r2) : vx_M l D vcl tys my_R_compare lw_gd (rm_ 2 0 0 45) [.ref (q 0), .int r1, .int r2] h (jpostR cJ cQ cZ cI ad q P.2 C S P.1) := jm_R J (fun h0 f g s V LR HP HX => by rw [eP]; exact cR_compare LR ht2 ht3 HP HX r1 r2)
set_option maxRecDepth 100000 in
set_option maxHeartbeats 8000000 in
theorem lc_compare (IG : vx_I l D vcl tys room_1 "SignedMillLaw" bc_L_law 4 lw_gd false A H0 G) (SL : scR D A H0 G bs L xs) (J : JM cJ cQ cZ cI ad q X X h C S) (ht : tys[0]? = some (cJ, .long)) (ht1 : tys[1]? = some (cQ, .object "SignedMill$Whole")) (ht2 : tys[2]? = some (cZ, .boolean)) (ht3 : tys[3]? = some (cI, .int)) (hk : k + C ≤ 600000) (hn : n + S ≤ 7302250) (hi : i + 6 ≤ L) (NX : nxL cJ cQ cZ cI ad q D A H0 G i bs) : vx_V D vcl A H0 4 G h k n 903 [(3, .int (nI i)), (2, .ref (q 0)), (1, .ref (ad 30)), (0, .ref bs)] [] := by
  obtain ⟨fs, ho⟩ := jm_oM J
  obtain ⟨P, eP⟩ : ∃ P : Int32 × (Nat → Int), P = sp2 (-2) X (fun a b => (cmpZ (X a) (X b), X)) (xs (i + 1)) (xs (i + 2)) := ⟨_, rfl⟩
  refine vx_aload_n IG dc_L_law_903 rfl 2 rfl ?_
  refine vx_aload_n IG dc_L_law_904 rfl 3 rfl ?_
  refine vx_iload_n IG dc_L_law_905 rfl 0 rfl ?_
  refine vx_iconst (v := 1) IG dc_L_law_906 (by decide) ?_
  refine vx_iadd IG dc_L_law_907 ?_
  refine vx_topi (y := nI (i + 1)) (nI_add _ _) ?_
  refine SL.1 _ _ _ _ _ _ _ (by omega) dc_L_law_908 ?_
  refine vx_aload_n IG dc_L_law_909 rfl 3 rfl ?_
  refine vx_iload_n IG dc_L_law_910 rfl 0 rfl ?_
  refine vx_iconst (v := 2) IG dc_L_law_911 (by decide) ?_
  refine vx_iadd IG dc_L_law_912 ?_
  refine vx_topi (y := nI (i + 2)) (nI_add _ _) ?_
  refine SL.1 _ _ _ _ _ _ _ (by omega) dc_L_law_913 ?_
  refine vx_callV (As := [.int (xs (i + 1)), .int (xs (i + 2))]) (st := []) IG lw_good (jM_compare J ht ht1 ht2 ht3 (xs (i + 1)) (xs (i + 2)) eP) ho rfl wC_M_compare wL_L_81 wI_M_compare wS_M_compare wX_M 2 (by decide +kernel) rfl ⟨Nat.le_of_ble_eq_true rfl, Nat.le_of_ble_eq_true rfl⟩ ⟨(show k + C ≤ 600000 from hk), (show n + S ≤ 7302250 from hn)⟩ rfl (Nat.le_of_ble_eq_true rfl) dc_L_law_914 (fun v h k_ n_ hq => ?_)
  obtain ⟨rfl, C1, S1, J1, hk1, hn1⟩ := hq
  show vx_V _ _ _ _ _ _ _ _ _ 917 [(3, .int (nI i)), (2, .ref (q 0)), (1, .ref (ad 30)), (0, .ref bs)] [.int P.1]
  refine vx_aload_n IG dc_L_law_917 rfl 1 rfl ?_
  refine vx_aload_n IG dc_L_law_918 rfl 3 rfl ?_
  refine vx_iload_n IG dc_L_law_919 rfl 0 rfl ?_
  refine vx_iconst (v := 1) IG dc_L_law_920 (by decide) ?_
  refine vx_iadd IG dc_L_law_921 ?_
  refine vx_topi (y := nI (i + 1)) (nI_add _ _) ?_
  refine SL.1 _ _ _ _ _ _ _ (by omega) dc_L_law_922 ?_
  refine vx_aload_n IG dc_L_law_923 rfl 3 rfl ?_
  refine vx_iload_n IG dc_L_law_924 rfl 0 rfl ?_
  refine vx_iconst (v := 2) IG dc_L_law_925 (by decide) ?_
  refine vx_iadd IG dc_L_law_926 ?_
  refine vx_topi (y := nI (i + 2)) (nI_add _ _) ?_
  refine SL.1 _ _ _ _ _ _ _ (by omega) dc_L_law_927 ?_
  refine vx_callV (As := [.int (xs (i + 1)), .int (xs (i + 2))]) (st := [.int P.1]) IG lw_good (jR_compare J1 ht ht1 ht2 ht3 (xs (i + 1)) (xs (i + 2)) eP) (jm_oR J1) rfl wC_R_compare wL_L_85 wI_R_compare wS_R_compare wX_R 2 (by decide +kernel) rfl ⟨Nat.le_of_ble_eq_true rfl, Nat.le_of_ble_eq_true rfl⟩ ⟨(by show _ + 0 ≤ 600000; omega), (by show _ + 0 ≤ 7302250; omega)⟩ rfl (Nat.le_of_ble_eq_true rfl) dc_L_law_928 (fun v h k_ n_ hq => ?_)
  obtain ⟨rfl, rfl, rfl, J2⟩ := hq
  show vx_V _ _ _ _ _ _ _ _ _ 931 [(3, .int (nI i)), (2, .ref (q 0)), (1, .ref (ad 30)), (0, .ref bs)] [.int P.1, .int P.1]
  refine vx_icmp_eq (tgt := 1061) IG dc_L_law_931 (by decide) (fun _ => ?_) (fun c_ => absurd rfl c_)
  exact NX P.2 h C1 S1 _ _ J2 (by omega) (by omega)
theorem jM_sign (J : JM cJ cQ cZ cI ad q X X h C S) (ht : tys[0]? = some (cJ, .long)) (ht1 : tys[1]? = some (cQ, .object "SignedMill$Whole")) (ht2 : tys[2]? = some (cZ, .boolean)) (ht3 : tys[3]? = some (cI, .int)) (r1 : Int32) (eP : P = sp1 (-2) X (fun d => (if X d = 0 then 0 else if X d < 0 then -1 else 1, X)) r1) : vx_M l D vcl tys my_M_sign lw_gd (rm_ 1 C S 21) [.ref (ad 30), .int r1] h (jpost cJ cQ cZ cI ad q X P.2 C S P.1) := jm_M J (fun r0 W LY HM => by rw [eP]; exact cM_sign LY HM ht ht1 ht2 r1)
theorem jR_sign (J : JM cJ cQ cZ cI ad q X P.2 h C S) (ht : tys[0]? = some (cJ, .long)) (ht1 : tys[1]? = some (cQ, .object "SignedMill$Whole")) (ht2 : tys[2]? = some (cZ, .boolean)) (ht3 : tys[3]? = some (cI, .int)) (r1 : Int32) (eP : P = sp1 (-2) X (fun d => (if X d = 0 then 0 else if X d < 0 then -1 else 1, X)) r1) : vx_M l D vcl tys my_R_sign lw_gd (rm_ 1 0 0 20) [.ref (q 0), .int r1] h (jpostR cJ cQ cZ cI ad q P.2 C S P.1) := jm_R J (fun h0 f g s V LR HP HX => by rw [eP]; exact cR_sign LR ht2 ht3 HP HX r1)
set_option maxRecDepth 100000 in
set_option maxHeartbeats 8000000 in
theorem lc_sign (IG : vx_I l D vcl tys room_1 "SignedMillLaw" bc_L_law 4 lw_gd false A H0 G) (SL : scR D A H0 G bs L xs) (J : JM cJ cQ cZ cI ad q X X h C S) (ht : tys[0]? = some (cJ, .long)) (ht1 : tys[1]? = some (cQ, .object "SignedMill$Whole")) (ht2 : tys[2]? = some (cZ, .boolean)) (ht3 : tys[3]? = some (cI, .int)) (hk : k + C ≤ 600000) (hn : n + S ≤ 7302250) (hi : i + 6 ≤ L) (NX : nxL cJ cQ cZ cI ad q D A H0 G i bs) : vx_V D vcl A H0 4 G h k n 936 [(3, .int (nI i)), (2, .ref (q 0)), (1, .ref (ad 30)), (0, .ref bs)] [] := by
  obtain ⟨fs, ho⟩ := jm_oM J
  obtain ⟨P, eP⟩ : ∃ P : Int32 × (Nat → Int), P = sp1 (-2) X (fun d => (if X d = 0 then 0 else if X d < 0 then -1 else 1, X)) (xs (i + 1)) := ⟨_, rfl⟩
  refine vx_aload_n IG dc_L_law_936 rfl 2 rfl ?_
  refine vx_aload_n IG dc_L_law_937 rfl 3 rfl ?_
  refine vx_iload_n IG dc_L_law_938 rfl 0 rfl ?_
  refine vx_iconst (v := 1) IG dc_L_law_939 (by decide) ?_
  refine vx_iadd IG dc_L_law_940 ?_
  refine vx_topi (y := nI (i + 1)) (nI_add _ _) ?_
  refine SL.1 _ _ _ _ _ _ _ (by omega) dc_L_law_941 ?_
  refine vx_callV (As := [.int (xs (i + 1))]) (st := []) IG lw_good (jM_sign J ht ht1 ht2 ht3 (xs (i + 1)) eP) ho rfl wC_M_sign wL_L_86 wI_M_sign wS_M_sign wX_M 1 (by decide +kernel) rfl ⟨Nat.le_of_ble_eq_true rfl, Nat.le_of_ble_eq_true rfl⟩ ⟨(show k + C ≤ 600000 from hk), (show n + S ≤ 7302250 from hn)⟩ rfl (Nat.le_of_ble_eq_true rfl) dc_L_law_942 (fun v h k_ n_ hq => ?_)
  obtain ⟨rfl, C1, S1, J1, hk1, hn1⟩ := hq
  show vx_V _ _ _ _ _ _ _ _ _ 945 [(3, .int (nI i)), (2, .ref (q 0)), (1, .ref (ad 30)), (0, .ref bs)] [.int P.1]
  refine vx_aload_n IG dc_L_law_945 rfl 1 rfl ?_
  refine vx_aload_n IG dc_L_law_946 rfl 3 rfl ?_
  refine vx_iload_n IG dc_L_law_947 rfl 0 rfl ?_
  refine vx_iconst (v := 1) IG dc_L_law_948 (by decide) ?_
  refine vx_iadd IG dc_L_law_949 ?_
  refine vx_topi (y := nI (i + 1)) (nI_add _ _) ?_
  refine SL.1 _ _ _ _ _ _ _ (by omega) dc_L_law_950 ?_
  refine vx_callV (As := [.int (xs (i + 1))]) (st := [.int P.1]) IG lw_good (jR_sign J1 ht ht1 ht2 ht3 (xs (i + 1)) eP) (jm_oR J1) rfl wC_R_sign wL_L_90 wI_R_sign wS_R_sign wX_R 1 (by decide +kernel) rfl ⟨Nat.le_of_ble_eq_true rfl, Nat.le_of_ble_eq_true rfl⟩ ⟨(by show _ + 0 ≤ 600000; omega), (by show _ + 0 ≤ 7302250; omega)⟩ rfl (Nat.le_of_ble_eq_true rfl) dc_L_law_951 (fun v h k_ n_ hq => ?_)
  obtain ⟨rfl, rfl, rfl, J2⟩ := hq
  show vx_V _ _ _ _ _ _ _ _ _ 954 [(3, .int (nI i)), (2, .ref (q 0)), (1, .ref (ad 30)), (0, .ref bs)] [.int P.1, .int P.1]
  refine vx_icmp_eq (tgt := 1061) IG dc_L_law_954 (by decide) (fun _ => ?_) (fun c_ => absurd rfl c_)
  exact NX P.2 h C1 S1 _ _ J2 (by omega) (by omega)
theorem jM_length (J : JM cJ cQ cZ cI ad q X X h C S) (ht : tys[0]? = some (cJ, .long)) (ht1 : tys[1]? = some (cQ, .object "SignedMill$Whole")) (ht2 : tys[2]? = some (cZ, .boolean)) (ht3 : tys[3]? = some (cI, .int)) (r1 : Int32) (eP : P = sp1 (-1) X (fun d => (nI (lenZ (X d)), X)) r1) : vx_M l D vcl tys my_M_length lw_gd (rm_ 3 C S 66) [.ref (ad 30), .int r1] h (jpost cJ cQ cZ cI ad q X P.2 C S P.1) := jm_M J (fun r0 W LY HM => by rw [eP]; exact cM_length LY HM ht ht1 ht2 r1)
theorem jR_length (J : JM cJ cQ cZ cI ad q X P.2 h C S) (ht : tys[0]? = some (cJ, .long)) (ht1 : tys[1]? = some (cQ, .object "SignedMill$Whole")) (ht2 : tys[2]? = some (cZ, .boolean)) (ht3 : tys[3]? = some (cI, .int)) (r1 : Int32) (eP : P = sp1 (-1) X (fun d => (nI (lenZ (X d)), X)) r1) : vx_M l D vcl tys my_R_length lw_gd (rm_ 4 0 0 88) [.ref (q 0), .int r1] h (jpostR cJ cQ cZ cI ad q P.2 C S P.1) := jm_R J (fun h0 f g s V LR HP HX => by rw [eP]; exact cR_length LR ht2 ht3 HP HX r1)
set_option maxRecDepth 100000 in
set_option maxHeartbeats 8000000 in
theorem lc_length (IG : vx_I l D vcl tys room_1 "SignedMillLaw" bc_L_law 4 lw_gd false A H0 G) (SL : scR D A H0 G bs L xs) (J : JM cJ cQ cZ cI ad q X X h C S) (ht : tys[0]? = some (cJ, .long)) (ht1 : tys[1]? = some (cQ, .object "SignedMill$Whole")) (ht2 : tys[2]? = some (cZ, .boolean)) (ht3 : tys[3]? = some (cI, .int)) (hk : k + C ≤ 600000) (hn : n + S ≤ 7302250) (hi : i + 6 ≤ L) (NX : nxL cJ cQ cZ cI ad q D A H0 G i bs) : vx_V D vcl A H0 4 G h k n 959 [(3, .int (nI i)), (2, .ref (q 0)), (1, .ref (ad 30)), (0, .ref bs)] [] := by
  obtain ⟨fs, ho⟩ := jm_oM J
  obtain ⟨P, eP⟩ : ∃ P : Int32 × (Nat → Int), P = sp1 (-1) X (fun d => (nI (lenZ (X d)), X)) (xs (i + 1)) := ⟨_, rfl⟩
  refine vx_aload_n IG dc_L_law_959 rfl 2 rfl ?_
  refine vx_aload_n IG dc_L_law_960 rfl 3 rfl ?_
  refine vx_iload_n IG dc_L_law_961 rfl 0 rfl ?_
  refine vx_iconst (v := 1) IG dc_L_law_962 (by decide) ?_
  refine vx_iadd IG dc_L_law_963 ?_
  refine vx_topi (y := nI (i + 1)) (nI_add _ _) ?_
  refine SL.1 _ _ _ _ _ _ _ (by omega) dc_L_law_964 ?_
  refine vx_callV (As := [.int (xs (i + 1))]) (st := []) IG lw_good (jM_length J ht ht1 ht2 ht3 (xs (i + 1)) eP) ho rfl wC_M_length wL_L_91 wI_M_length wS_M_length wX_M 1 (by decide +kernel) rfl ⟨Nat.le_of_ble_eq_true rfl, Nat.le_of_ble_eq_true rfl⟩ ⟨(show k + C ≤ 600000 from hk), (show n + S ≤ 7302250 from hn)⟩ rfl (Nat.le_of_ble_eq_true rfl) dc_L_law_965 (fun v h k_ n_ hq => ?_)
  obtain ⟨rfl, C1, S1, J1, hk1, hn1⟩ := hq
  show vx_V _ _ _ _ _ _ _ _ _ 968 [(3, .int (nI i)), (2, .ref (q 0)), (1, .ref (ad 30)), (0, .ref bs)] [.int P.1]
  refine vx_aload_n IG dc_L_law_968 rfl 1 rfl ?_
  refine vx_aload_n IG dc_L_law_969 rfl 3 rfl ?_
  refine vx_iload_n IG dc_L_law_970 rfl 0 rfl ?_
  refine vx_iconst (v := 1) IG dc_L_law_971 (by decide) ?_
  refine vx_iadd IG dc_L_law_972 ?_
  refine vx_topi (y := nI (i + 1)) (nI_add _ _) ?_
  refine SL.1 _ _ _ _ _ _ _ (by omega) dc_L_law_973 ?_
  refine vx_callV (As := [.int (xs (i + 1))]) (st := [.int P.1]) IG lw_good (jR_length J1 ht ht1 ht2 ht3 (xs (i + 1)) eP) (jm_oR J1) rfl wC_R_length wL_L_94 wI_R_length wS_R_length wX_R 1 (by decide +kernel) rfl ⟨Nat.le_of_ble_eq_true rfl, Nat.le_of_ble_eq_true rfl⟩ ⟨(by show _ + 0 ≤ 600000; omega), (by show _ + 0 ≤ 7302250; omega)⟩ rfl (Nat.le_of_ble_eq_true rfl) dc_L_law_974 (fun v h k_ n_ hq => ?_)
  obtain ⟨rfl, rfl, rfl, J2⟩ := hq
  show vx_V _ _ _ _ _ _ _ _ _ 977 [(3, .int (nI i)), (2, .ref (q 0)), (1, .ref (ad 30)), (0, .ref bs)] [.int P.1, .int P.1]
  refine vx_icmp_eq (tgt := 1061) IG dc_L_law_977 (by decide) (fun _ => ?_) (fun c_ => absurd rfl c_)
  exact NX P.2 h C1 S1 _ _ J2 (by omega) (by omega)
theorem jM_ones (J : JM cJ cQ cZ cI ad q X X h C S) (ht : tys[0]? = some (cJ, .long)) (ht1 : tys[1]? = some (cQ, .object "SignedMill$Whole")) (ht2 : tys[2]? = some (cZ, .boolean)) (ht3 : tys[3]? = some (cI, .int)) (r1 : Int32) (eP : P = sp1 (-1) X (fun d => (nI (onesZ (X d)), X)) r1) : vx_M l D vcl tys my_M_ones lw_gd (rm_ 3 C S 66) [.ref (ad 30), .int r1] h (jpost cJ cQ cZ cI ad q X P.2 C S P.1) := jm_M J (fun r0 W LY HM => by rw [eP]; exact cM_ones LY HM ht ht1 ht2 r1)
theorem jR_ones (J : JM cJ cQ cZ cI ad q X P.2 h C S) (ht : tys[0]? = some (cJ, .long)) (ht1 : tys[1]? = some (cQ, .object "SignedMill$Whole")) (ht2 : tys[2]? = some (cZ, .boolean)) (ht3 : tys[3]? = some (cI, .int)) (r1 : Int32) (eP : P = sp1 (-1) X (fun d => (nI (onesZ (X d)), X)) r1) : vx_M l D vcl tys my_R_ones lw_gd (rm_ 3 0 0 66) [.ref (q 0), .int r1] h (jpostR cJ cQ cZ cI ad q P.2 C S P.1) := jm_R J (fun h0 f g s V LR HP HX => by rw [eP]; exact cR_ones LR ht2 ht3 HP HX r1)
set_option maxRecDepth 100000 in
set_option maxHeartbeats 8000000 in
theorem lc_ones (IG : vx_I l D vcl tys room_1 "SignedMillLaw" bc_L_law 4 lw_gd false A H0 G) (SL : scR D A H0 G bs L xs) (J : JM cJ cQ cZ cI ad q X X h C S) (ht : tys[0]? = some (cJ, .long)) (ht1 : tys[1]? = some (cQ, .object "SignedMill$Whole")) (ht2 : tys[2]? = some (cZ, .boolean)) (ht3 : tys[3]? = some (cI, .int)) (hk : k + C ≤ 600000) (hn : n + S ≤ 7302250) (hi : i + 6 ≤ L) (NX : nxL cJ cQ cZ cI ad q D A H0 G i bs) : vx_V D vcl A H0 4 G h k n 982 [(3, .int (nI i)), (2, .ref (q 0)), (1, .ref (ad 30)), (0, .ref bs)] [] := by
  obtain ⟨fs, ho⟩ := jm_oM J
  obtain ⟨P, eP⟩ : ∃ P : Int32 × (Nat → Int), P = sp1 (-1) X (fun d => (nI (onesZ (X d)), X)) (xs (i + 1)) := ⟨_, rfl⟩
  refine vx_aload_n IG dc_L_law_982 rfl 2 rfl ?_
  refine vx_aload_n IG dc_L_law_983 rfl 3 rfl ?_
  refine vx_iload_n IG dc_L_law_984 rfl 0 rfl ?_
  refine vx_iconst (v := 1) IG dc_L_law_985 (by decide) ?_
  refine vx_iadd IG dc_L_law_986 ?_
  refine vx_topi (y := nI (i + 1)) (nI_add _ _) ?_
  refine SL.1 _ _ _ _ _ _ _ (by omega) dc_L_law_987 ?_
  refine vx_callV (As := [.int (xs (i + 1))]) (st := []) IG lw_good (jM_ones J ht ht1 ht2 ht3 (xs (i + 1)) eP) ho rfl wC_M_ones wL_L_95 wI_M_ones wS_M_ones wX_M 1 (by decide +kernel) rfl ⟨Nat.le_of_ble_eq_true rfl, Nat.le_of_ble_eq_true rfl⟩ ⟨(show k + C ≤ 600000 from hk), (show n + S ≤ 7302250 from hn)⟩ rfl (Nat.le_of_ble_eq_true rfl) dc_L_law_988 (fun v h k_ n_ hq => ?_)
  obtain ⟨rfl, C1, S1, J1, hk1, hn1⟩ := hq
  show vx_V _ _ _ _ _ _ _ _ _ 991 [(3, .int (nI i)), (2, .ref (q 0)), (1, .ref (ad 30)), (0, .ref bs)] [.int P.1]
  refine vx_aload_n IG dc_L_law_991 rfl 1 rfl ?_
  refine vx_aload_n IG dc_L_law_992 rfl 3 rfl ?_
  refine vx_iload_n IG dc_L_law_993 rfl 0 rfl ?_
  refine vx_iconst (v := 1) IG dc_L_law_994 (by decide) ?_
  refine vx_iadd IG dc_L_law_995 ?_
  refine vx_topi (y := nI (i + 1)) (nI_add _ _) ?_
  refine SL.1 _ _ _ _ _ _ _ (by omega) dc_L_law_996 ?_
  refine vx_callV (As := [.int (xs (i + 1))]) (st := [.int P.1]) IG lw_good (jR_ones J1 ht ht1 ht2 ht3 (xs (i + 1)) eP) (jm_oR J1) rfl wC_R_ones wL_L_98 wI_R_ones wS_R_ones wX_R 1 (by decide +kernel) rfl ⟨Nat.le_of_ble_eq_true rfl, Nat.le_of_ble_eq_true rfl⟩ ⟨(by show _ + 0 ≤ 600000; omega), (by show _ + 0 ≤ 7302250; omega)⟩ rfl (Nat.le_of_ble_eq_true rfl) dc_L_law_997 (fun v h k_ n_ hq => ?_)
  obtain ⟨rfl, rfl, rfl, J2⟩ := hq
  show vx_V _ _ _ _ _ _ _ _ _ 1000 [(3, .int (nI i)), (2, .ref (q 0)), (1, .ref (ad 30)), (0, .ref bs)] [.int P.1, .int P.1]
  refine vx_icmp_eq (tgt := 1061) IG dc_L_law_1000 (by decide) (fun _ => ?_) (fun c_ => absurd rfl c_)
  exact NX P.2 h C1 S1 _ _ J2 (by omega) (by omega)
theorem jM_lowest (J : JM cJ cQ cZ cI ad q X X h C S) (ht : tys[0]? = some (cJ, .long)) (ht1 : tys[1]? = some (cQ, .object "SignedMill$Whole")) (ht2 : tys[2]? = some (cZ, .boolean)) (ht3 : tys[3]? = some (cI, .int)) (r1 : Int32) (eP : P = sp1 (-1) X (fun d => (if X d = 0 then -1 else nI (tz (X d).natAbs), X)) r1) : vx_M l D vcl tys my_M_lowest lw_gd (rm_ 3 C S 64) [.ref (ad 30), .int r1] h (jpost cJ cQ cZ cI ad q X P.2 C S P.1) := jm_M J (fun r0 W LY HM => by rw [eP]; exact cM_lowest LY HM ht ht1 ht2 r1)
theorem jR_lowest (J : JM cJ cQ cZ cI ad q X P.2 h C S) (ht : tys[0]? = some (cJ, .long)) (ht1 : tys[1]? = some (cQ, .object "SignedMill$Whole")) (ht2 : tys[2]? = some (cZ, .boolean)) (ht3 : tys[3]? = some (cI, .int)) (r1 : Int32) (eP : P = sp1 (-1) X (fun d => (if X d = 0 then -1 else nI (tz (X d).natAbs), X)) r1) : vx_M l D vcl tys my_R_lowest lw_gd (rm_ 3 0 0 64) [.ref (q 0), .int r1] h (jpostR cJ cQ cZ cI ad q P.2 C S P.1) := jm_R J (fun h0 f g s V LR HP HX => by rw [eP]; exact cR_lowest LR ht2 ht3 HP HX r1)
set_option maxRecDepth 100000 in
set_option maxHeartbeats 8000000 in
theorem lc_lowest (IG : vx_I l D vcl tys room_1 "SignedMillLaw" bc_L_law 4 lw_gd false A H0 G) (SL : scR D A H0 G bs L xs) (J : JM cJ cQ cZ cI ad q X X h C S) (ht : tys[0]? = some (cJ, .long)) (ht1 : tys[1]? = some (cQ, .object "SignedMill$Whole")) (ht2 : tys[2]? = some (cZ, .boolean)) (ht3 : tys[3]? = some (cI, .int)) (hk : k + C ≤ 600000) (hn : n + S ≤ 7302250) (hi : i + 6 ≤ L) (NX : nxL cJ cQ cZ cI ad q D A H0 G i bs) : vx_V D vcl A H0 4 G h k n 1005 [(3, .int (nI i)), (2, .ref (q 0)), (1, .ref (ad 30)), (0, .ref bs)] [] := by
  obtain ⟨fs, ho⟩ := jm_oM J
  obtain ⟨P, eP⟩ : ∃ P : Int32 × (Nat → Int), P = sp1 (-1) X (fun d => (if X d = 0 then -1 else nI (tz (X d).natAbs), X)) (xs (i + 1)) := ⟨_, rfl⟩
  refine vx_aload_n IG dc_L_law_1005 rfl 2 rfl ?_
  refine vx_aload_n IG dc_L_law_1006 rfl 3 rfl ?_
  refine vx_iload_n IG dc_L_law_1007 rfl 0 rfl ?_
  refine vx_iconst (v := 1) IG dc_L_law_1008 (by decide) ?_
  refine vx_iadd IG dc_L_law_1009 ?_
  refine vx_topi (y := nI (i + 1)) (nI_add _ _) ?_
  refine SL.1 _ _ _ _ _ _ _ (by omega) dc_L_law_1010 ?_
  refine vx_callV (As := [.int (xs (i + 1))]) (st := []) IG lw_good (jM_lowest J ht ht1 ht2 ht3 (xs (i + 1)) eP) ho rfl wC_M_lowest wL_L_99 wI_M_lowest wS_M_lowest wX_M 1 (by decide +kernel) rfl ⟨Nat.le_of_ble_eq_true rfl, Nat.le_of_ble_eq_true rfl⟩ ⟨(show k + C ≤ 600000 from hk), (show n + S ≤ 7302250 from hn)⟩ rfl (Nat.le_of_ble_eq_true rfl) dc_L_law_1011 (fun v h k_ n_ hq => ?_)
  obtain ⟨rfl, C1, S1, J1, hk1, hn1⟩ := hq
  show vx_V _ _ _ _ _ _ _ _ _ 1014 [(3, .int (nI i)), (2, .ref (q 0)), (1, .ref (ad 30)), (0, .ref bs)] [.int P.1]
  refine vx_aload_n IG dc_L_law_1014 rfl 1 rfl ?_
  refine vx_aload_n IG dc_L_law_1015 rfl 3 rfl ?_
  refine vx_iload_n IG dc_L_law_1016 rfl 0 rfl ?_
  refine vx_iconst (v := 1) IG dc_L_law_1017 (by decide) ?_
  refine vx_iadd IG dc_L_law_1018 ?_
  refine vx_topi (y := nI (i + 1)) (nI_add _ _) ?_
  refine SL.1 _ _ _ _ _ _ _ (by omega) dc_L_law_1019 ?_
  refine vx_callV (As := [.int (xs (i + 1))]) (st := [.int P.1]) IG lw_good (jR_lowest J1 ht ht1 ht2 ht3 (xs (i + 1)) eP) (jm_oR J1) rfl wC_R_lowest wL_L_102 wI_R_lowest wS_R_lowest wX_R 1 (by decide +kernel) rfl ⟨Nat.le_of_ble_eq_true rfl, Nat.le_of_ble_eq_true rfl⟩ ⟨(by show _ + 0 ≤ 600000; omega), (by show _ + 0 ≤ 7302250; omega)⟩ rfl (Nat.le_of_ble_eq_true rfl) dc_L_law_1020 (fun v h k_ n_ hq => ?_)
  obtain ⟨rfl, rfl, rfl, J2⟩ := hq
  show vx_V _ _ _ _ _ _ _ _ _ 1023 [(3, .int (nI i)), (2, .ref (q 0)), (1, .ref (ad 30)), (0, .ref bs)] [.int P.1, .int P.1]
  refine vx_icmp_eq (tgt := 1061) IG dc_L_law_1023 (by decide) (fun _ => ?_) (fun c_ => absurd rfl c_)
  exact NX P.2 h C1 S1 _ _ J2 (by omega) (by omega)
theorem jM_word (J : JM cJ cQ cZ cI ad q X X h C S) (ht : tys[0]? = some (cJ, .long)) (ht1 : tys[1]? = some (cQ, .object "SignedMill$Whole")) (ht2 : tys[2]? = some (cZ, .boolean)) (ht3 : tys[3]? = some (cI, .int)) (r1 n : Int32) (eP : P = sp1 0 X (fun d => if 0 ≤ n.toInt then (nI (eD 4294967296 (X d) n.toNatClampNeg), X) else (0, X)) r1) : vx_M l D vcl tys my_M_word lw_gd (rm_ 2 C S 46) [.ref (ad 30), .int r1, .int n] h (jpost cJ cQ cZ cI ad q X P.2 C S P.1) := jm_M J (fun r0 W LY HM => by rw [eP]; exact cM_word LY HM ht ht1 ht2 r1 n)
theorem jR_word (J : JM cJ cQ cZ cI ad q X P.2 h C S) (ht : tys[0]? = some (cJ, .long)) (ht1 : tys[1]? = some (cQ, .object "SignedMill$Whole")) (ht2 : tys[2]? = some (cZ, .boolean)) (ht3 : tys[3]? = some (cI, .int)) (r1 p : Int32) (eP : P = sp1 0 X (fun d => if 0 ≤ p.toInt then (nI (eD 4294967296 (X d) p.toNatClampNeg), X) else (0, X)) r1) : vx_M l D vcl tys my_R_word lw_gd (rm_ 3 0 0 66) [.ref (q 0), .int r1, .int p] h (jpostR cJ cQ cZ cI ad q P.2 C S P.1) := jm_R J (fun h0 f g s V LR HP HX => by rw [eP]; exact cR_word LR ht2 ht3 HP HX r1 p)
set_option maxRecDepth 100000 in
set_option maxHeartbeats 8000000 in
theorem lc_word (IG : vx_I l D vcl tys room_1 "SignedMillLaw" bc_L_law 4 lw_gd false A H0 G) (SL : scR D A H0 G bs L xs) (J : JM cJ cQ cZ cI ad q X X h C S) (ht : tys[0]? = some (cJ, .long)) (ht1 : tys[1]? = some (cQ, .object "SignedMill$Whole")) (ht2 : tys[2]? = some (cZ, .boolean)) (ht3 : tys[3]? = some (cI, .int)) (hk : k + C ≤ 600000) (hn : n + S ≤ 7302250) (hi : i + 6 ≤ L) (NX : nxL cJ cQ cZ cI ad q D A H0 G i bs) : vx_V D vcl A H0 4 G h k n 1028 [(3, .int (nI i)), (2, .ref (q 0)), (1, .ref (ad 30)), (0, .ref bs)] [] := by
  obtain ⟨fs, ho⟩ := jm_oM J
  obtain ⟨P, eP⟩ : ∃ P : Int32 × (Nat → Int), P = sp1 0 X (fun d => if 0 ≤ (xs (i + 2)).toInt then (nI (eD 4294967296 (X d) (xs (i + 2)).toNatClampNeg), X) else (0, X)) (xs (i + 1)) := ⟨_, rfl⟩
  refine vx_aload_n IG dc_L_law_1028 rfl 2 rfl ?_
  refine vx_aload_n IG dc_L_law_1029 rfl 3 rfl ?_
  refine vx_iload_n IG dc_L_law_1030 rfl 0 rfl ?_
  refine vx_iconst (v := 1) IG dc_L_law_1031 (by decide) ?_
  refine vx_iadd IG dc_L_law_1032 ?_
  refine vx_topi (y := nI (i + 1)) (nI_add _ _) ?_
  refine SL.1 _ _ _ _ _ _ _ (by omega) dc_L_law_1033 ?_
  refine vx_aload_n IG dc_L_law_1034 rfl 3 rfl ?_
  refine vx_iload_n IG dc_L_law_1035 rfl 0 rfl ?_
  refine vx_iconst (v := 2) IG dc_L_law_1036 (by decide) ?_
  refine vx_iadd IG dc_L_law_1037 ?_
  refine vx_topi (y := nI (i + 2)) (nI_add _ _) ?_
  refine SL.1 _ _ _ _ _ _ _ (by omega) dc_L_law_1038 ?_
  refine vx_callV (As := [.int (xs (i + 1)), .int (xs (i + 2))]) (st := []) IG lw_good (jM_word J ht ht1 ht2 ht3 (xs (i + 1)) (xs (i + 2)) eP) ho rfl wC_M_word wL_L_103 wI_M_word wS_M_word wX_M 2 (by decide +kernel) rfl ⟨Nat.le_of_ble_eq_true rfl, Nat.le_of_ble_eq_true rfl⟩ ⟨(show k + C ≤ 600000 from hk), (show n + S ≤ 7302250 from hn)⟩ rfl (Nat.le_of_ble_eq_true rfl) dc_L_law_1039 (fun v h k_ n_ hq => ?_)
  obtain ⟨rfl, C1, S1, J1, hk1, hn1⟩ := hq
  show vx_V _ _ _ _ _ _ _ _ _ 1042 [(3, .int (nI i)), (2, .ref (q 0)), (1, .ref (ad 30)), (0, .ref bs)] [.int P.1]
  refine vx_aload_n IG dc_L_law_1042 rfl 1 rfl ?_
  refine vx_aload_n IG dc_L_law_1043 rfl 3 rfl ?_
  refine vx_iload_n IG dc_L_law_1044 rfl 0 rfl ?_
  refine vx_iconst (v := 1) IG dc_L_law_1045 (by decide) ?_
  refine vx_iadd IG dc_L_law_1046 ?_
  refine vx_topi (y := nI (i + 1)) (nI_add _ _) ?_
  refine SL.1 _ _ _ _ _ _ _ (by omega) dc_L_law_1047 ?_
  refine vx_aload_n IG dc_L_law_1048 rfl 3 rfl ?_
  refine vx_iload_n IG dc_L_law_1049 rfl 0 rfl ?_
  refine vx_iconst (v := 2) IG dc_L_law_1050 (by decide) ?_
  refine vx_iadd IG dc_L_law_1051 ?_
  refine vx_topi (y := nI (i + 2)) (nI_add _ _) ?_
  refine SL.1 _ _ _ _ _ _ _ (by omega) dc_L_law_1052 ?_
  refine vx_callV (As := [.int (xs (i + 1)), .int (xs (i + 2))]) (st := [.int P.1]) IG lw_good (jR_word J1 ht ht1 ht2 ht3 (xs (i + 1)) (xs (i + 2)) eP) (jm_oR J1) rfl wC_R_word wL_L_106 wI_R_word wS_R_word wX_R 2 (by decide +kernel) rfl ⟨Nat.le_of_ble_eq_true rfl, Nat.le_of_ble_eq_true rfl⟩ ⟨(by show _ + 0 ≤ 600000; omega), (by show _ + 0 ≤ 7302250; omega)⟩ rfl (Nat.le_of_ble_eq_true rfl) dc_L_law_1053 (fun v h k_ n_ hq => ?_)
  obtain ⟨rfl, rfl, rfl, J2⟩ := hq
  show vx_V _ _ _ _ _ _ _ _ _ 1056 [(3, .int (nI i)), (2, .ref (q 0)), (1, .ref (ad 30)), (0, .ref bs)] [.int P.1, .int P.1]
  refine vx_icmp_eq (tgt := 1061) IG dc_L_law_1056 (by decide) (fun _ => ?_) (fun c_ => absurd rfl c_)
  exact NX P.2 h C1 S1 _ _ J2 (by omega) (by omega)
end
