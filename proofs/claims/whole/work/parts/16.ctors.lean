/-! the constructors, each at the cells that it makes: written by wip/whole/ctor_gen.py -/
abbrev h0 : mH := fun _ _ => 0
theorem hn0 (n : Nat) : hnew h0 n = h0 := by funext a b; unfold hnew; split <;> rfl
theorem k_obj_i : Cond.instanceMethod Lib.objectInit ∈ t0_ws := tm 139 (by decide +kernel) rfl
theorem k_obj_c : Cond.code Lib.objectInit ⟨#[0xb1]⟩ 1 none ∈ t0_ws := tm 140 (by decide +kernel) rfl
theorem k_ac_int : Cond.arrayClass .int ∈ t0_ws := tm 237 (by decide +kernel) rfl
theorem k_ac_byte : Cond.arrayClass .byte ∈ t0_ws := tm 236 (by decide +kernel) rfl
theorem k_ac_boolean : Cond.arrayClass .boolean ∈ t0_ws := tm 238 (by decide +kernel) rfl
theorem k_ac_long : Cond.arrayClass .long ∈ t0_ws := tm 1379 (by decide +kernel) rfl
theorem k_ins_0 : Cond.instantiable "LinkTimes$Bargains" 6 ∈ t0_ws := tm 480 (by decide +kernel) rfl
theorem k_ini_0 : Cond.initialized "LinkTimes$Bargains" ∈ t0_ws := tm 122 (by decide +kernel) rfl
theorem k_ins_1 : Cond.instantiable "LinkTimes$Desk" 15 ∈ t0_ws := tm 142 (by decide +kernel) rfl
theorem k_ini_1 : Cond.initialized "LinkTimes$Desk" ∈ t0_ws := tm 114 (by decide +kernel) rfl
theorem k_ins_2 : Cond.instantiable "LinkTimes$Flood" 2 ∈ t0_ws := tm 443 (by decide +kernel) rfl
theorem k_ini_2 : Cond.initialized "LinkTimes$Flood" ∈ t0_ws := tm 120 (by decide +kernel) rfl
theorem k_ins_3 : Cond.instantiable "LinkTimes$Log" 4 ∈ t0_ws := tm 291 (by decide +kernel) rfl
theorem k_ini_3 : Cond.initialized "LinkTimes$Log" ∈ t0_ws := tm 116 (by decide +kernel) rfl
theorem k_ins_4 : Cond.instantiable "LinkTimes$Net" 10 ∈ t0_ws := tm 311 (by decide +kernel) rfl
theorem k_ini_4 : Cond.initialized "LinkTimes$Net" ∈ t0_ws := tm 117 (by decide +kernel) rfl
theorem k_ins_5 : Cond.instantiable "LinkTimes$Reader" 14 ∈ t0_ws := tm 240 (by decide +kernel) rfl
theorem k_ini_5 : Cond.initialized "LinkTimes$Reader" ∈ t0_ws := tm 115 (by decide +kernel) rfl
theorem k_ins_6 : Cond.instantiable "LinkTimes$Search" 6 ∈ t0_ws := tm 380 (by decide +kernel) rfl
theorem k_ini_6 : Cond.initialized "LinkTimes$Search" ∈ t0_ws := tm 118 (by decide +kernel) rfl
theorem k_ins_7 : Cond.instantiable "LinkTimes$Steps" 4 ∈ t0_ws := tm 457 (by decide +kernel) rfl
theorem k_ini_7 : Cond.initialized "LinkTimes$Steps" ∈ t0_ws := tm 121 (by decide +kernel) rfl
theorem k_ins_8 : Cond.instantiable "LinkTimes$Way" 5 ∈ t0_ws := tm 386 (by decide +kernel) rfl
theorem k_ini_8 : Cond.initialized "LinkTimes$Way" ∈ t0_ws := tm 119 (by decide +kernel) rfl
theorem k_ins_9 : Cond.instantiable "LinkTimes" 15 ∈ t0_ws := tm 134 (by decide +kernel) rfl
theorem k_ini_9 : Cond.initialized "LinkTimes" ∈ t0_ws := tm 113 (by decide +kernel) rfl
theorem k_ins_10 : Cond.instantiable "LinkTimesModel" 42 ∈ t0_ws := tm 1247 (by decide +kernel) rfl
theorem k_ini_10 : Cond.initialized "LinkTimesModel" ∈ t0_ws := tm 123 (by decide +kernel) rfl
theorem k_cl_La_8 : Cond.classLink "LinkTimesLaw" 8 "LinkTimes" ∈ t0_ws := tm 133 (by decide +kernel) rfl
theorem k_cl_Lt_13 : Cond.classLink "LinkTimes" 13 "LinkTimes$Desk" ∈ t0_ws := tm 141 (by decide +kernel) rfl
theorem k_cl_Lt_23 : Cond.classLink "LinkTimes" 23 "LinkTimes$Reader" ∈ t0_ws := tm 239 (by decide +kernel) rfl
theorem k_cl_Lt_32 : Cond.classLink "LinkTimes" 32 "LinkTimes$Log" ∈ t0_ws := tm 290 (by decide +kernel) rfl
theorem k_cl_Lt_39 : Cond.classLink "LinkTimes" 39 "LinkTimes$Net" ∈ t0_ws := tm 310 (by decide +kernel) rfl
theorem k_cl_Lt_48 : Cond.classLink "LinkTimes" 48 "LinkTimes$Search" ∈ t0_ws := tm 379 (by decide +kernel) rfl
theorem k_cl_Se_9 : Cond.classLink "LinkTimes$Search" 9 "LinkTimes$Way" ∈ t0_ws := tm 385 (by decide +kernel) rfl
theorem k_cl_Lt_55 : Cond.classLink "LinkTimes" 55 "LinkTimes$Flood" ∈ t0_ws := tm 442 (by decide +kernel) rfl
theorem k_cl_Lt_65 : Cond.classLink "LinkTimes" 65 "LinkTimes$Steps" ∈ t0_ws := tm 456 (by decide +kernel) rfl
theorem k_cl_Lt_72 : Cond.classLink "LinkTimes" 72 "LinkTimes$Bargains" ∈ t0_ws := tm 479 (by decide +kernel) rfl
theorem k_cl_La_16 : Cond.classLink "LinkTimesLaw" 16 "LinkTimesModel" ∈ t0_ws := tm 1246 (by decide +kernel) rfl
theorem k_ol_Lt_1 : Cond.methodLink "LinkTimes" 1 Lib.objectInit ∈ t0_ws := tm 138 (by decide +kernel) rfl
theorem k_ol_De_3 : Cond.methodLink "LinkTimes$Desk" 3 Lib.objectInit ∈ t0_ws := tm 146 (by decide +kernel) rfl
theorem k_ol_Re_3 : Cond.methodLink "LinkTimes$Reader" 3 Lib.objectInit ∈ t0_ws := tm 244 (by decide +kernel) rfl
theorem k_ol_Lo_1 : Cond.methodLink "LinkTimes$Log" 1 Lib.objectInit ∈ t0_ws := tm 295 (by decide +kernel) rfl
theorem k_ol_Ne_3 : Cond.methodLink "LinkTimes$Net" 3 Lib.objectInit ∈ t0_ws := tm 315 (by decide +kernel) rfl
theorem k_ol_Se_3 : Cond.methodLink "LinkTimes$Search" 3 Lib.objectInit ∈ t0_ws := tm 384 (by decide +kernel) rfl
theorem k_ol_Wa_3 : Cond.methodLink "LinkTimes$Way" 3 Lib.objectInit ∈ t0_ws := tm 390 (by decide +kernel) rfl
theorem k_ol_Fl_3 : Cond.methodLink "LinkTimes$Flood" 3 Lib.objectInit ∈ t0_ws := tm 447 (by decide +kernel) rfl
theorem k_ol_St_3 : Cond.methodLink "LinkTimes$Steps" 3 Lib.objectInit ∈ t0_ws := tm 461 (by decide +kernel) rfl
theorem k_ol_Ba_3 : Cond.methodLink "LinkTimes$Bargains" 3 Lib.objectInit ∈ t0_ws := tm 484 (by decide +kernel) rfl
theorem k_ol_Mo_3 : Cond.methodLink "LinkTimesModel" 3 Lib.objectInit ∈ t0_ws := tm 1251 (by decide +kernel) rfl
def x_c_De_init_2 (r : mR) : mR := (rup (rnew (rup (rnew (rup (rnew (rup (rnew (rup (rnew (rup (rnew (rup (rnew (rup (rnew (rup (rnew (rup (rnew r) 2 5 (some 3))) 2 6 (some 4))) 2 7 (some 5))) 2 8 (some 6))) 2 9 (some 7))) 2 10 (some 8))) 2 11 (some 9))) 2 12 (some 10))) 2 13 (some 11))) 2 14 (some 12))
set_option maxRecDepth 100000 in
set_option maxHeartbeats 4000000 in
theorem c_De_init_2 (r : mR) (hr : r.2 = 3) : Meets false { frames := 2, cells := 10, slots := 980, locals := 80 } m_De_init [vR 2] h0 r (fun rv h' r' => rv = none ∧ h' = h0 ∧ r' = x_c_De_init_2 r) := by
  obtain ⟨f, n⟩ := r
  cases hr
  refine ⟨ok_De_init, (Nat.le_of_ble_eq_true rfl), ?_⟩
  refine wq_aload_n (kk := 0) (q := 1) rfl rfl rfl ?_
  refine wq_objInit (q := 4) k_ol_De_3 k_obj_i k_obj_c rfl rfl (Nat.le_of_ble_eq_true rfl) (Nat.le_of_ble_eq_true rfl) (Nat.le_of_ble_eq_true rfl) ?_
  refine wq_aload_n (kk := 0) (q := 5) rfl rfl rfl ?_
  refine wq_bipush (n := 10) (q := 7) rfl rfl rfl ?_
  refine wq_newI (n := 10) (q := 9) k_ac_int rfl rfl (Nat.le_of_ble_eq_true rfl) rfl rfl (Nat.le_of_ble_eq_true rfl) (Nat.le_of_ble_eq_true rfl) (Nat.le_of_ble_eq_true rfl) ?_
  rw [hn0]
  refine wq_putF (q := 12) f_De_9 rfl rfl rfl rfl rfl (Or.inr (Nat.le_of_ble_eq_true rfl)) (Or.inr (Nat.le_of_ble_eq_true rfl)) (fun e => Bool.noConfusion e) rfl rfl ?_
  refine wq_aload_n (kk := 0) (q := 13) rfl rfl rfl ?_
  refine wq_bipush (n := 10) (q := 15) rfl rfl rfl ?_
  refine wq_newI (n := 10) (q := 17) k_ac_int rfl rfl (Nat.le_of_ble_eq_true rfl) rfl rfl (Nat.le_of_ble_eq_true rfl) (Nat.le_of_ble_eq_true rfl) (Nat.le_of_ble_eq_true rfl) ?_
  rw [hn0]
  refine wq_putF (q := 20) f_De_15 rfl rfl rfl rfl rfl (Or.inr (Nat.le_of_ble_eq_true rfl)) (Or.inr (Nat.le_of_ble_eq_true rfl)) (fun e => Bool.noConfusion e) rfl rfl ?_
  refine wq_aload_n (kk := 0) (q := 21) rfl rfl rfl ?_
  refine wq_bipush (n := 120) (q := 23) rfl rfl rfl ?_
  refine wq_newI (n := 120) (q := 25) k_ac_int rfl rfl (Nat.le_of_ble_eq_true rfl) rfl rfl (Nat.le_of_ble_eq_true rfl) (Nat.le_of_ble_eq_true rfl) (Nat.le_of_ble_eq_true rfl) ?_
  rw [hn0]
  refine wq_putF (q := 28) f_De_18 rfl rfl rfl rfl rfl (Or.inr (Nat.le_of_ble_eq_true rfl)) (Or.inr (Nat.le_of_ble_eq_true rfl)) (fun e => Bool.noConfusion e) rfl rfl ?_
  refine wq_aload_n (kk := 0) (q := 29) rfl rfl rfl ?_
  refine wq_bipush (n := 120) (q := 31) rfl rfl rfl ?_
  refine wq_newI (n := 120) (q := 33) k_ac_int rfl rfl (Nat.le_of_ble_eq_true rfl) rfl rfl (Nat.le_of_ble_eq_true rfl) (Nat.le_of_ble_eq_true rfl) (Nat.le_of_ble_eq_true rfl) ?_
  rw [hn0]
  refine wq_putF (q := 36) f_De_21 rfl rfl rfl rfl rfl (Or.inr (Nat.le_of_ble_eq_true rfl)) (Or.inr (Nat.le_of_ble_eq_true rfl)) (fun e => Bool.noConfusion e) rfl rfl ?_
  refine wq_aload_n (kk := 0) (q := 37) rfl rfl rfl ?_
  refine wq_bipush (n := 120) (q := 39) rfl rfl rfl ?_
  refine wq_newI (n := 120) (q := 41) k_ac_int rfl rfl (Nat.le_of_ble_eq_true rfl) rfl rfl (Nat.le_of_ble_eq_true rfl) (Nat.le_of_ble_eq_true rfl) (Nat.le_of_ble_eq_true rfl) ?_
  rw [hn0]
  refine wq_putF (q := 44) f_De_24 rfl rfl rfl rfl rfl (Or.inr (Nat.le_of_ble_eq_true rfl)) (Or.inr (Nat.le_of_ble_eq_true rfl)) (fun e => Bool.noConfusion e) rfl rfl ?_
  refine wq_aload_n (kk := 0) (q := 45) rfl rfl rfl ?_
  refine wq_bipush (n := 120) (q := 47) rfl rfl rfl ?_
  refine wq_newI (n := 120) (q := 49) k_ac_int rfl rfl (Nat.le_of_ble_eq_true rfl) rfl rfl (Nat.le_of_ble_eq_true rfl) (Nat.le_of_ble_eq_true rfl) (Nat.le_of_ble_eq_true rfl) ?_
  rw [hn0]
  refine wq_putF (q := 52) f_De_27 rfl rfl rfl rfl rfl (Or.inr (Nat.le_of_ble_eq_true rfl)) (Or.inr (Nat.le_of_ble_eq_true rfl)) (fun e => Bool.noConfusion e) rfl rfl ?_
  refine wq_aload_n (kk := 0) (q := 53) rfl rfl rfl ?_
  refine wq_bipush (n := 120) (q := 55) rfl rfl rfl ?_
  refine wq_newI (n := 120) (q := 57) k_ac_int rfl rfl (Nat.le_of_ble_eq_true rfl) rfl rfl (Nat.le_of_ble_eq_true rfl) (Nat.le_of_ble_eq_true rfl) (Nat.le_of_ble_eq_true rfl) ?_
  rw [hn0]
  refine wq_putF (q := 60) f_De_30 rfl rfl rfl rfl rfl (Or.inr (Nat.le_of_ble_eq_true rfl)) (Or.inr (Nat.le_of_ble_eq_true rfl)) (fun e => Bool.noConfusion e) rfl rfl ?_
  refine wq_aload_n (kk := 0) (q := 61) rfl rfl rfl ?_
  refine wq_bipush (n := 120) (q := 63) rfl rfl rfl ?_
  refine wq_newI (n := 120) (q := 65) k_ac_int rfl rfl (Nat.le_of_ble_eq_true rfl) rfl rfl (Nat.le_of_ble_eq_true rfl) (Nat.le_of_ble_eq_true rfl) (Nat.le_of_ble_eq_true rfl) ?_
  rw [hn0]
  refine wq_putF (q := 68) f_De_33 rfl rfl rfl rfl rfl (Or.inr (Nat.le_of_ble_eq_true rfl)) (Or.inr (Nat.le_of_ble_eq_true rfl)) (fun e => Bool.noConfusion e) rfl rfl ?_
  refine wq_aload_n (kk := 0) (q := 69) rfl rfl rfl ?_
  refine wq_bipush (n := 120) (q := 71) rfl rfl rfl ?_
  refine wq_newI (n := 120) (q := 73) k_ac_int rfl rfl (Nat.le_of_ble_eq_true rfl) rfl rfl (Nat.le_of_ble_eq_true rfl) (Nat.le_of_ble_eq_true rfl) (Nat.le_of_ble_eq_true rfl) ?_
  rw [hn0]
  refine wq_putF (q := 76) f_De_36 rfl rfl rfl rfl rfl (Or.inr (Nat.le_of_ble_eq_true rfl)) (Or.inr (Nat.le_of_ble_eq_true rfl)) (fun e => Bool.noConfusion e) rfl rfl ?_
  refine wq_aload_n (kk := 0) (q := 77) rfl rfl rfl ?_
  refine wq_bipush (n := 120) (q := 79) rfl rfl rfl ?_
  refine wq_newZ (n := 120) (q := 81) k_ac_boolean rfl rfl (Nat.le_of_ble_eq_true rfl) rfl rfl (Nat.le_of_ble_eq_true rfl) (Nat.le_of_ble_eq_true rfl) (Nat.le_of_ble_eq_true rfl) ?_
  rw [hn0]
  refine wq_putF (q := 84) f_De_39 rfl rfl rfl rfl rfl (Or.inr (Nat.le_of_ble_eq_true rfl)) (Or.inr (Nat.le_of_ble_eq_true rfl)) (fun e => Bool.noConfusion e) rfl rfl ?_
  exact wq_vret rfl rfl (Nat.le_of_ble_eq_true rfl) (Nat.le_of_ble_eq_true rfl) ⟨rfl, rfl, rfl⟩
def x_c_De_init_13 (r : mR) : mR := (rup (rnew (rup (rnew (rup (rnew (rup (rnew (rup (rnew (rup (rnew (rup (rnew (rup (rnew (rup (rnew (rup (rnew r) 13 5 (some 14))) 13 6 (some 15))) 13 7 (some 16))) 13 8 (some 17))) 13 9 (some 18))) 13 10 (some 19))) 13 11 (some 20))) 13 12 (some 21))) 13 13 (some 22))) 13 14 (some 23))
set_option maxRecDepth 100000 in
set_option maxHeartbeats 4000000 in
theorem c_De_init_13 (r : mR) (hr : r.2 = 14) : Meets false { frames := 2, cells := 10, slots := 980, locals := 80 } m_De_init [vR 13] h0 r (fun rv h' r' => rv = none ∧ h' = h0 ∧ r' = x_c_De_init_13 r) := by
  obtain ⟨f, n⟩ := r
  cases hr
  refine ⟨ok_De_init, (Nat.le_of_ble_eq_true rfl), ?_⟩
  refine wq_aload_n (kk := 0) (q := 1) rfl rfl rfl ?_
  refine wq_objInit (q := 4) k_ol_De_3 k_obj_i k_obj_c rfl rfl (Nat.le_of_ble_eq_true rfl) (Nat.le_of_ble_eq_true rfl) (Nat.le_of_ble_eq_true rfl) ?_
  refine wq_aload_n (kk := 0) (q := 5) rfl rfl rfl ?_
  refine wq_bipush (n := 10) (q := 7) rfl rfl rfl ?_
  refine wq_newI (n := 10) (q := 9) k_ac_int rfl rfl (Nat.le_of_ble_eq_true rfl) rfl rfl (Nat.le_of_ble_eq_true rfl) (Nat.le_of_ble_eq_true rfl) (Nat.le_of_ble_eq_true rfl) ?_
  rw [hn0]
  refine wq_putF (q := 12) f_De_9 rfl rfl rfl rfl rfl (Or.inr (Nat.le_of_ble_eq_true rfl)) (Or.inr (Nat.le_of_ble_eq_true rfl)) (fun e => Bool.noConfusion e) rfl rfl ?_
  refine wq_aload_n (kk := 0) (q := 13) rfl rfl rfl ?_
  refine wq_bipush (n := 10) (q := 15) rfl rfl rfl ?_
  refine wq_newI (n := 10) (q := 17) k_ac_int rfl rfl (Nat.le_of_ble_eq_true rfl) rfl rfl (Nat.le_of_ble_eq_true rfl) (Nat.le_of_ble_eq_true rfl) (Nat.le_of_ble_eq_true rfl) ?_
  rw [hn0]
  refine wq_putF (q := 20) f_De_15 rfl rfl rfl rfl rfl (Or.inr (Nat.le_of_ble_eq_true rfl)) (Or.inr (Nat.le_of_ble_eq_true rfl)) (fun e => Bool.noConfusion e) rfl rfl ?_
  refine wq_aload_n (kk := 0) (q := 21) rfl rfl rfl ?_
  refine wq_bipush (n := 120) (q := 23) rfl rfl rfl ?_
  refine wq_newI (n := 120) (q := 25) k_ac_int rfl rfl (Nat.le_of_ble_eq_true rfl) rfl rfl (Nat.le_of_ble_eq_true rfl) (Nat.le_of_ble_eq_true rfl) (Nat.le_of_ble_eq_true rfl) ?_
  rw [hn0]
  refine wq_putF (q := 28) f_De_18 rfl rfl rfl rfl rfl (Or.inr (Nat.le_of_ble_eq_true rfl)) (Or.inr (Nat.le_of_ble_eq_true rfl)) (fun e => Bool.noConfusion e) rfl rfl ?_
  refine wq_aload_n (kk := 0) (q := 29) rfl rfl rfl ?_
  refine wq_bipush (n := 120) (q := 31) rfl rfl rfl ?_
  refine wq_newI (n := 120) (q := 33) k_ac_int rfl rfl (Nat.le_of_ble_eq_true rfl) rfl rfl (Nat.le_of_ble_eq_true rfl) (Nat.le_of_ble_eq_true rfl) (Nat.le_of_ble_eq_true rfl) ?_
  rw [hn0]
  refine wq_putF (q := 36) f_De_21 rfl rfl rfl rfl rfl (Or.inr (Nat.le_of_ble_eq_true rfl)) (Or.inr (Nat.le_of_ble_eq_true rfl)) (fun e => Bool.noConfusion e) rfl rfl ?_
  refine wq_aload_n (kk := 0) (q := 37) rfl rfl rfl ?_
  refine wq_bipush (n := 120) (q := 39) rfl rfl rfl ?_
  refine wq_newI (n := 120) (q := 41) k_ac_int rfl rfl (Nat.le_of_ble_eq_true rfl) rfl rfl (Nat.le_of_ble_eq_true rfl) (Nat.le_of_ble_eq_true rfl) (Nat.le_of_ble_eq_true rfl) ?_
  rw [hn0]
  refine wq_putF (q := 44) f_De_24 rfl rfl rfl rfl rfl (Or.inr (Nat.le_of_ble_eq_true rfl)) (Or.inr (Nat.le_of_ble_eq_true rfl)) (fun e => Bool.noConfusion e) rfl rfl ?_
  refine wq_aload_n (kk := 0) (q := 45) rfl rfl rfl ?_
  refine wq_bipush (n := 120) (q := 47) rfl rfl rfl ?_
  refine wq_newI (n := 120) (q := 49) k_ac_int rfl rfl (Nat.le_of_ble_eq_true rfl) rfl rfl (Nat.le_of_ble_eq_true rfl) (Nat.le_of_ble_eq_true rfl) (Nat.le_of_ble_eq_true rfl) ?_
  rw [hn0]
  refine wq_putF (q := 52) f_De_27 rfl rfl rfl rfl rfl (Or.inr (Nat.le_of_ble_eq_true rfl)) (Or.inr (Nat.le_of_ble_eq_true rfl)) (fun e => Bool.noConfusion e) rfl rfl ?_
  refine wq_aload_n (kk := 0) (q := 53) rfl rfl rfl ?_
  refine wq_bipush (n := 120) (q := 55) rfl rfl rfl ?_
  refine wq_newI (n := 120) (q := 57) k_ac_int rfl rfl (Nat.le_of_ble_eq_true rfl) rfl rfl (Nat.le_of_ble_eq_true rfl) (Nat.le_of_ble_eq_true rfl) (Nat.le_of_ble_eq_true rfl) ?_
  rw [hn0]
  refine wq_putF (q := 60) f_De_30 rfl rfl rfl rfl rfl (Or.inr (Nat.le_of_ble_eq_true rfl)) (Or.inr (Nat.le_of_ble_eq_true rfl)) (fun e => Bool.noConfusion e) rfl rfl ?_
  refine wq_aload_n (kk := 0) (q := 61) rfl rfl rfl ?_
  refine wq_bipush (n := 120) (q := 63) rfl rfl rfl ?_
  refine wq_newI (n := 120) (q := 65) k_ac_int rfl rfl (Nat.le_of_ble_eq_true rfl) rfl rfl (Nat.le_of_ble_eq_true rfl) (Nat.le_of_ble_eq_true rfl) (Nat.le_of_ble_eq_true rfl) ?_
  rw [hn0]
  refine wq_putF (q := 68) f_De_33 rfl rfl rfl rfl rfl (Or.inr (Nat.le_of_ble_eq_true rfl)) (Or.inr (Nat.le_of_ble_eq_true rfl)) (fun e => Bool.noConfusion e) rfl rfl ?_
  refine wq_aload_n (kk := 0) (q := 69) rfl rfl rfl ?_
  refine wq_bipush (n := 120) (q := 71) rfl rfl rfl ?_
  refine wq_newI (n := 120) (q := 73) k_ac_int rfl rfl (Nat.le_of_ble_eq_true rfl) rfl rfl (Nat.le_of_ble_eq_true rfl) (Nat.le_of_ble_eq_true rfl) (Nat.le_of_ble_eq_true rfl) ?_
  rw [hn0]
  refine wq_putF (q := 76) f_De_36 rfl rfl rfl rfl rfl (Or.inr (Nat.le_of_ble_eq_true rfl)) (Or.inr (Nat.le_of_ble_eq_true rfl)) (fun e => Bool.noConfusion e) rfl rfl ?_
  refine wq_aload_n (kk := 0) (q := 77) rfl rfl rfl ?_
  refine wq_bipush (n := 120) (q := 79) rfl rfl rfl ?_
  refine wq_newZ (n := 120) (q := 81) k_ac_boolean rfl rfl (Nat.le_of_ble_eq_true rfl) rfl rfl (Nat.le_of_ble_eq_true rfl) (Nat.le_of_ble_eq_true rfl) (Nat.le_of_ble_eq_true rfl) ?_
  rw [hn0]
  refine wq_putF (q := 84) f_De_39 rfl rfl rfl rfl rfl (Or.inr (Nat.le_of_ble_eq_true rfl)) (Or.inr (Nat.le_of_ble_eq_true rfl)) (fun e => Bool.noConfusion e) rfl rfl ?_
  exact wq_vret rfl rfl (Nat.le_of_ble_eq_true rfl) (Nat.le_of_ble_eq_true rfl) ⟨rfl, rfl, rfl⟩
def x_c_Re_init_24 (r : mR) : mR := (rup (rup (rup (rnew (rup (rnew r) 24 5 (some 25))) 24 6 (some 26)) 24 2 (some 1)) 24 4 (some 13))
set_option maxRecDepth 100000 in
set_option maxHeartbeats 4000000 in
theorem c_Re_init_24 (r : mR) (hr : r.2 = 25) : Meets false { frames := 2, cells := 2, slots := 18, locals := 80 } m_Re_init [vR 24, vR 1, vR 13] h0 r (fun rv h' r' => rv = none ∧ h' = h0 ∧ r' = x_c_Re_init_24 r) := by
  obtain ⟨f, n⟩ := r
  cases hr
  refine ⟨ok_Re_init, (Nat.le_of_ble_eq_true rfl), ?_⟩
  refine wq_aload_n (kk := 0) (q := 1) rfl rfl rfl ?_
  refine wq_objInit (q := 4) k_ol_Re_3 k_obj_i k_obj_c rfl rfl (Nat.le_of_ble_eq_true rfl) (Nat.le_of_ble_eq_true rfl) (Nat.le_of_ble_eq_true rfl) ?_
  refine wq_aload_n (kk := 0) (q := 5) rfl rfl rfl ?_
  refine wq_bipush (n := 10) (q := 7) rfl rfl rfl ?_
  refine wq_newI (n := 10) (q := 9) k_ac_int rfl rfl (Nat.le_of_ble_eq_true rfl) rfl rfl (Nat.le_of_ble_eq_true rfl) (Nat.le_of_ble_eq_true rfl) (Nat.le_of_ble_eq_true rfl) ?_
  rw [hn0]
  refine wq_putF (q := 12) f_Re_9 rfl rfl rfl rfl rfl (Or.inr (Nat.le_of_ble_eq_true rfl)) (Or.inr (Nat.le_of_ble_eq_true rfl)) (fun e => Bool.noConfusion e) rfl rfl ?_
  refine wq_aload_n (kk := 0) (q := 13) rfl rfl rfl ?_
  refine wq_bipush (n := 8) (q := 15) rfl rfl rfl ?_
  refine wq_newI (n := 8) (q := 17) k_ac_int rfl rfl (Nat.le_of_ble_eq_true rfl) rfl rfl (Nat.le_of_ble_eq_true rfl) (Nat.le_of_ble_eq_true rfl) (Nat.le_of_ble_eq_true rfl) ?_
  rw [hn0]
  refine wq_putF (q := 20) f_Re_15 rfl rfl rfl rfl rfl (Or.inr (Nat.le_of_ble_eq_true rfl)) (Or.inr (Nat.le_of_ble_eq_true rfl)) (fun e => Bool.noConfusion e) rfl rfl ?_
  refine wq_aload_n (kk := 0) (q := 21) rfl rfl rfl ?_
  refine wq_aload_n (kk := 1) (q := 22) rfl rfl rfl ?_
  refine wq_putF (q := 25) f_Re_18 rfl rfl rfl rfl rfl (Or.inr (Nat.le_of_ble_eq_true rfl)) (Or.inr (Nat.le_of_ble_eq_true rfl)) (fun e => Bool.noConfusion e) rfl rfl ?_
  refine wq_aload_n (kk := 0) (q := 26) rfl rfl rfl ?_
  refine wq_aload_n (kk := 2) (q := 27) rfl rfl rfl ?_
  refine wq_putR (q := 30) f_Re_22 rfl rfl rfl (Or.inr (Nat.le_of_ble_eq_true rfl)) (Or.inr (Nat.le_of_ble_eq_true rfl)) (fun e => Bool.noConfusion e) rfl rfl ?_
  exact wq_vret rfl rfl (Nat.le_of_ble_eq_true rfl) (Nat.le_of_ble_eq_true rfl) ⟨rfl, rfl, rfl⟩
def x_c_Lo_init_27 (r : mR) : mR := (rup (rnew (rup (rnew (rup (rnew r) 27 1 (some 28))) 27 2 (some 29))) 27 3 (some 30))
set_option maxRecDepth 100000 in
set_option maxHeartbeats 4000000 in
theorem c_Lo_init_27 (r : mR) (hr : r.2 = 28) : Meets false { frames := 2, cells := 3, slots := 30, locals := 80 } m_Lo_init [vR 27] h0 r (fun rv h' r' => rv = none ∧ h' = h0 ∧ r' = x_c_Lo_init_27 r) := by
  obtain ⟨f, n⟩ := r
  cases hr
  refine ⟨ok_Lo_init, (Nat.le_of_ble_eq_true rfl), ?_⟩
  refine wq_aload_n (kk := 0) (q := 1) rfl rfl rfl ?_
  refine wq_objInit (q := 4) k_ol_Lo_1 k_obj_i k_obj_c rfl rfl (Nat.le_of_ble_eq_true rfl) (Nat.le_of_ble_eq_true rfl) (Nat.le_of_ble_eq_true rfl) ?_
  refine wq_aload_n (kk := 0) (q := 5) rfl rfl rfl ?_
  refine wq_bipush (n := 10) (q := 7) rfl rfl rfl ?_
  refine wq_newI (n := 10) (q := 9) k_ac_int rfl rfl (Nat.le_of_ble_eq_true rfl) rfl rfl (Nat.le_of_ble_eq_true rfl) (Nat.le_of_ble_eq_true rfl) (Nat.le_of_ble_eq_true rfl) ?_
  rw [hn0]
  refine wq_putF (q := 12) f_Lo_9 rfl rfl rfl rfl rfl (Or.inr (Nat.le_of_ble_eq_true rfl)) (Or.inr (Nat.le_of_ble_eq_true rfl)) (fun e => Bool.noConfusion e) rfl rfl ?_
  refine wq_aload_n (kk := 0) (q := 13) rfl rfl rfl ?_
  refine wq_bipush (n := 10) (q := 15) rfl rfl rfl ?_
  refine wq_newI (n := 10) (q := 17) k_ac_int rfl rfl (Nat.le_of_ble_eq_true rfl) rfl rfl (Nat.le_of_ble_eq_true rfl) (Nat.le_of_ble_eq_true rfl) (Nat.le_of_ble_eq_true rfl) ?_
  rw [hn0]
  refine wq_putF (q := 20) f_Lo_13 rfl rfl rfl rfl rfl (Or.inr (Nat.le_of_ble_eq_true rfl)) (Or.inr (Nat.le_of_ble_eq_true rfl)) (fun e => Bool.noConfusion e) rfl rfl ?_
  refine wq_aload_n (kk := 0) (q := 21) rfl rfl rfl ?_
  refine wq_bipush (n := 10) (q := 23) rfl rfl rfl ?_
  refine wq_newI (n := 10) (q := 25) k_ac_int rfl rfl (Nat.le_of_ble_eq_true rfl) rfl rfl (Nat.le_of_ble_eq_true rfl) (Nat.le_of_ble_eq_true rfl) (Nat.le_of_ble_eq_true rfl) ?_
  rw [hn0]
  refine wq_putF (q := 28) f_Lo_16 rfl rfl rfl rfl rfl (Or.inr (Nat.le_of_ble_eq_true rfl)) (Or.inr (Nat.le_of_ble_eq_true rfl)) (fun e => Bool.noConfusion e) rfl rfl ?_
  exact wq_vret rfl rfl (Nat.le_of_ble_eq_true rfl) (Nat.le_of_ble_eq_true rfl) ⟨rfl, rfl, rfl⟩
def x_c_Ne_init_31 (r : mR) : mR := (rup (rup (rnew (rup (rnew (rup (rnew (rup (rnew (rup (rnew (rup (rnew (rup (rnew (rup (rnew r) 31 1 (some 32))) 31 2 (some 33))) 31 3 (some 34))) 31 4 (some 35))) 31 5 (some 36))) 31 6 (some 37))) 31 8 (some 38))) 31 9 (some 39)) 31 7 (some 2))
set_option maxRecDepth 100000 in
set_option maxHeartbeats 4000000 in
theorem c_Ne_init_31 (r : mR) (hr : r.2 = 32) : Meets false { frames := 2, cells := 8, slots := 631, locals := 80 } m_Ne_init [vR 31, vR 2] h0 r (fun rv h' r' => rv = none ∧ h' = h0 ∧ r' = x_c_Ne_init_31 r) := by
  obtain ⟨f, n⟩ := r
  cases hr
  refine ⟨ok_Ne_init, (Nat.le_of_ble_eq_true rfl), ?_⟩
  refine wq_aload_n (kk := 0) (q := 1) rfl rfl rfl ?_
  refine wq_objInit (q := 4) k_ol_Ne_3 k_obj_i k_obj_c rfl rfl (Nat.le_of_ble_eq_true rfl) (Nat.le_of_ble_eq_true rfl) (Nat.le_of_ble_eq_true rfl) ?_
  refine wq_aload_n (kk := 0) (q := 5) rfl rfl rfl ?_
  refine wq_bipush (n := 120) (q := 7) rfl rfl rfl ?_
  refine wq_newI (n := 120) (q := 9) k_ac_int rfl rfl (Nat.le_of_ble_eq_true rfl) rfl rfl (Nat.le_of_ble_eq_true rfl) (Nat.le_of_ble_eq_true rfl) (Nat.le_of_ble_eq_true rfl) ?_
  rw [hn0]
  refine wq_putF (q := 12) f_Ne_9 rfl rfl rfl rfl rfl (Or.inr (Nat.le_of_ble_eq_true rfl)) (Or.inr (Nat.le_of_ble_eq_true rfl)) (fun e => Bool.noConfusion e) rfl rfl ?_
  refine wq_aload_n (kk := 0) (q := 13) rfl rfl rfl ?_
  refine wq_bipush (n := 120) (q := 15) rfl rfl rfl ?_
  refine wq_newI (n := 120) (q := 17) k_ac_int rfl rfl (Nat.le_of_ble_eq_true rfl) rfl rfl (Nat.le_of_ble_eq_true rfl) (Nat.le_of_ble_eq_true rfl) (Nat.le_of_ble_eq_true rfl) ?_
  rw [hn0]
  refine wq_putF (q := 20) f_Ne_15 rfl rfl rfl rfl rfl (Or.inr (Nat.le_of_ble_eq_true rfl)) (Or.inr (Nat.le_of_ble_eq_true rfl)) (fun e => Bool.noConfusion e) rfl rfl ?_
  refine wq_aload_n (kk := 0) (q := 21) rfl rfl rfl ?_
  refine wq_bipush (n := 120) (q := 23) rfl rfl rfl ?_
  refine wq_newZ (n := 120) (q := 25) k_ac_boolean rfl rfl (Nat.le_of_ble_eq_true rfl) rfl rfl (Nat.le_of_ble_eq_true rfl) (Nat.le_of_ble_eq_true rfl) (Nat.le_of_ble_eq_true rfl) ?_
  rw [hn0]
  refine wq_putF (q := 28) f_Ne_18 rfl rfl rfl rfl rfl (Or.inr (Nat.le_of_ble_eq_true rfl)) (Or.inr (Nat.le_of_ble_eq_true rfl)) (fun e => Bool.noConfusion e) rfl rfl ?_
  refine wq_aload_n (kk := 0) (q := 29) rfl rfl rfl ?_
  refine wq_bipush (n := 120) (q := 31) rfl rfl rfl ?_
  refine wq_newI (n := 120) (q := 33) k_ac_int rfl rfl (Nat.le_of_ble_eq_true rfl) rfl rfl (Nat.le_of_ble_eq_true rfl) (Nat.le_of_ble_eq_true rfl) (Nat.le_of_ble_eq_true rfl) ?_
  rw [hn0]
  refine wq_putF (q := 36) f_Ne_22 rfl rfl rfl rfl rfl (Or.inr (Nat.le_of_ble_eq_true rfl)) (Or.inr (Nat.le_of_ble_eq_true rfl)) (fun e => Bool.noConfusion e) rfl rfl ?_
  refine wq_aload_n (kk := 0) (q := 37) rfl rfl rfl ?_
  refine wq_bipush (n := 120) (q := 39) rfl rfl rfl ?_
  refine wq_newI (n := 120) (q := 41) k_ac_int rfl rfl (Nat.le_of_ble_eq_true rfl) rfl rfl (Nat.le_of_ble_eq_true rfl) (Nat.le_of_ble_eq_true rfl) (Nat.le_of_ble_eq_true rfl) ?_
  rw [hn0]
  refine wq_putF (q := 44) f_Ne_25 rfl rfl rfl rfl rfl (Or.inr (Nat.le_of_ble_eq_true rfl)) (Or.inr (Nat.le_of_ble_eq_true rfl)) (fun e => Bool.noConfusion e) rfl rfl ?_
  refine wq_aload_n (kk := 0) (q := 45) rfl rfl rfl ?_
  refine wq_bipush (n := 11) (q := 47) rfl rfl rfl ?_
  refine wq_newI (n := 11) (q := 49) k_ac_int rfl rfl (Nat.le_of_ble_eq_true rfl) rfl rfl (Nat.le_of_ble_eq_true rfl) (Nat.le_of_ble_eq_true rfl) (Nat.le_of_ble_eq_true rfl) ?_
  rw [hn0]
  refine wq_putF (q := 52) f_Ne_28 rfl rfl rfl rfl rfl (Or.inr (Nat.le_of_ble_eq_true rfl)) (Or.inr (Nat.le_of_ble_eq_true rfl)) (fun e => Bool.noConfusion e) rfl rfl ?_
  refine wq_aload_n (kk := 0) (q := 53) rfl rfl rfl ?_
  refine wq_bipush (n := 10) (q := 55) rfl rfl rfl ?_
  refine wq_newI (n := 10) (q := 57) k_ac_int rfl rfl (Nat.le_of_ble_eq_true rfl) rfl rfl (Nat.le_of_ble_eq_true rfl) (Nat.le_of_ble_eq_true rfl) (Nat.le_of_ble_eq_true rfl) ?_
  rw [hn0]
  refine wq_putF (q := 60) f_Ne_31 rfl rfl rfl rfl rfl (Or.inr (Nat.le_of_ble_eq_true rfl)) (Or.inr (Nat.le_of_ble_eq_true rfl)) (fun e => Bool.noConfusion e) rfl rfl ?_
  refine wq_aload_n (kk := 0) (q := 61) rfl rfl rfl ?_
  refine wq_bipush (n := 10) (q := 63) rfl rfl rfl ?_
  refine wq_newI (n := 10) (q := 65) k_ac_int rfl rfl (Nat.le_of_ble_eq_true rfl) rfl rfl (Nat.le_of_ble_eq_true rfl) (Nat.le_of_ble_eq_true rfl) (Nat.le_of_ble_eq_true rfl) ?_
  rw [hn0]
  refine wq_putF (q := 68) f_Ne_34 rfl rfl rfl rfl rfl (Or.inr (Nat.le_of_ble_eq_true rfl)) (Or.inr (Nat.le_of_ble_eq_true rfl)) (fun e => Bool.noConfusion e) rfl rfl ?_
  refine wq_aload_n (kk := 0) (q := 69) rfl rfl rfl ?_
  refine wq_aload_n (kk := 1) (q := 70) rfl rfl rfl ?_
  refine wq_putR (q := 73) f_Ne_37 rfl rfl rfl (Or.inr (Nat.le_of_ble_eq_true rfl)) (Or.inr (Nat.le_of_ble_eq_true rfl)) (fun e => Bool.noConfusion e) rfl rfl ?_
  exact wq_vret rfl rfl (Nat.le_of_ble_eq_true rfl) (Nat.le_of_ble_eq_true rfl) ⟨rfl, rfl, rfl⟩
def x_c_Wa_init_41 (r : mR) : mR := (rup (rnew r) 41 4 (some 42))
set_option maxRecDepth 100000 in
set_option maxHeartbeats 4000000 in
theorem c_Wa_init_41 (r : mR) (hr : r.2 = 42) : Meets false { frames := 2, cells := 1, slots := 120, locals := 80 } m_Wa_init [vR 41] h0 r (fun rv h' r' => rv = none ∧ h' = h0 ∧ r' = x_c_Wa_init_41 r) := by
  obtain ⟨f, n⟩ := r
  cases hr
  refine ⟨ok_Wa_init, (Nat.le_of_ble_eq_true rfl), ?_⟩
  refine wq_aload_n (kk := 0) (q := 1) rfl rfl rfl ?_
  refine wq_objInit (q := 4) k_ol_Wa_3 k_obj_i k_obj_c rfl rfl (Nat.le_of_ble_eq_true rfl) (Nat.le_of_ble_eq_true rfl) (Nat.le_of_ble_eq_true rfl) ?_
  refine wq_aload_n (kk := 0) (q := 5) rfl rfl rfl ?_
  refine wq_bipush (n := 120) (q := 7) rfl rfl rfl ?_
  refine wq_newI (n := 120) (q := 9) k_ac_int rfl rfl (Nat.le_of_ble_eq_true rfl) rfl rfl (Nat.le_of_ble_eq_true rfl) (Nat.le_of_ble_eq_true rfl) (Nat.le_of_ble_eq_true rfl) ?_
  rw [hn0]
  refine wq_putF (q := 12) f_Wa_9 rfl rfl rfl rfl rfl (Or.inr (Nat.le_of_ble_eq_true rfl)) (Or.inr (Nat.le_of_ble_eq_true rfl)) (fun e => Bool.noConfusion e) rfl rfl ?_
  exact wq_vret rfl rfl (Nat.le_of_ble_eq_true rfl) (Nat.le_of_ble_eq_true rfl) ⟨rfl, rfl, rfl⟩
def x_c_Se_init_40 (r : mR) : mR := (rup (rnew (rup (rnew (rup (rnew (rup (rnew (rup (rnew (rup (x_c_Wa_init_41 (rnew r)) 40 0 (some 41))) 40 1 (some 43))) 40 2 (some 44))) 40 3 (some 45))) 40 4 (some 46))) 40 5 (some 47))
set_option maxRecDepth 100000 in
set_option maxHeartbeats 4000000 in
theorem c_Se_init_40 (r : mR) (hr : r.2 = 41) : Meets false { frames := 3, cells := 7, slots := 615, locals := 120 } m_Se_init [vR 40] h0 r (fun rv h' r' => rv = none ∧ h' = h0 ∧ r' = x_c_Se_init_40 r) := by
  obtain ⟨f, n⟩ := r
  cases hr
  refine ⟨ok_Se_init, (Nat.le_of_ble_eq_true rfl), ?_⟩
  refine wq_aload_n (kk := 0) (q := 1) rfl rfl rfl ?_
  refine wq_objInit (q := 4) k_ol_Se_3 k_obj_i k_obj_c rfl rfl (Nat.le_of_ble_eq_true rfl) (Nat.le_of_ble_eq_true rfl) (Nat.le_of_ble_eq_true rfl) ?_
  refine wq_aload_n (kk := 0) (q := 5) rfl rfl rfl ?_
  refine wq_new (ci := 8) (q := 8) k_cl_Se_9 k_ins_8 k_ini_8 rfl rfl rfl rfl rfl (Nat.le_of_ble_eq_true rfl) (Nat.le_of_ble_eq_true rfl) (Nat.le_of_ble_eq_true rfl) ?_
  rw [hn0]
  refine wq_dup (q := 9) rfl rfl rfl ?_
  refine wq_callIN (q := 12) (m' := m_Wa_init) (As := []) (rest := [vR 41, vR 40]) rfl rfl (by decide +kernel) in_Wa_init rfl rfl rfl (Nat.le_of_ble_eq_true rfl) (Nat.le_of_ble_eq_true rfl) (Nat.le_of_ble_eq_true rfl) (Nat.le_of_ble_eq_true rfl) (Nat.le_of_ble_eq_true rfl) (c_Wa_init_41 _ rfl) rfl ?_
  rintro rv h1 r1 ⟨rfl, rfl, rfl⟩ -
  refine wq_putF (q := 15) f_Se_12 rfl rfl rfl rfl rfl (Or.inr (Nat.le_of_ble_eq_true rfl)) (Or.inr (Nat.le_of_ble_eq_true rfl)) (fun e => Bool.noConfusion e) rfl rfl ?_
  refine wq_aload_n (kk := 0) (q := 16) rfl rfl rfl ?_
  refine wq_bipush (n := 10) (q := 18) rfl rfl rfl ?_
  refine wq_newI (n := 10) (q := 20) k_ac_int rfl rfl (Nat.le_of_ble_eq_true rfl) rfl rfl (Nat.le_of_ble_eq_true rfl) (Nat.le_of_ble_eq_true rfl) (Nat.le_of_ble_eq_true rfl) ?_
  rw [hn0]
  refine wq_putF (q := 23) f_Se_18 rfl rfl rfl rfl rfl (Or.inr (Nat.le_of_ble_eq_true rfl)) (Or.inr (Nat.le_of_ble_eq_true rfl)) (fun e => Bool.noConfusion e) rfl rfl ?_
  refine wq_aload_n (kk := 0) (q := 24) rfl rfl rfl ?_
  refine wq_bipush (n := 120) (q := 26) rfl rfl rfl ?_
  refine wq_newI (n := 120) (q := 28) k_ac_int rfl rfl (Nat.le_of_ble_eq_true rfl) rfl rfl (Nat.le_of_ble_eq_true rfl) (Nat.le_of_ble_eq_true rfl) (Nat.le_of_ble_eq_true rfl) ?_
  rw [hn0]
  refine wq_putF (q := 31) f_Se_22 rfl rfl rfl rfl rfl (Or.inr (Nat.le_of_ble_eq_true rfl)) (Or.inr (Nat.le_of_ble_eq_true rfl)) (fun e => Bool.noConfusion e) rfl rfl ?_
  refine wq_aload_n (kk := 0) (q := 32) rfl rfl rfl ?_
  refine wq_bipush (n := 120) (q := 34) rfl rfl rfl ?_
  refine wq_newI (n := 120) (q := 36) k_ac_int rfl rfl (Nat.le_of_ble_eq_true rfl) rfl rfl (Nat.le_of_ble_eq_true rfl) (Nat.le_of_ble_eq_true rfl) (Nat.le_of_ble_eq_true rfl) ?_
  rw [hn0]
  refine wq_putF (q := 39) f_Se_25 rfl rfl rfl rfl rfl (Or.inr (Nat.le_of_ble_eq_true rfl)) (Or.inr (Nat.le_of_ble_eq_true rfl)) (fun e => Bool.noConfusion e) rfl rfl ?_
  refine wq_aload_n (kk := 0) (q := 40) rfl rfl rfl ?_
  refine wq_bipush (n := 120) (q := 42) rfl rfl rfl ?_
  refine wq_newI (n := 120) (q := 44) k_ac_int rfl rfl (Nat.le_of_ble_eq_true rfl) rfl rfl (Nat.le_of_ble_eq_true rfl) (Nat.le_of_ble_eq_true rfl) (Nat.le_of_ble_eq_true rfl) ?_
  rw [hn0]
  refine wq_putF (q := 47) f_Se_28 rfl rfl rfl rfl rfl (Or.inr (Nat.le_of_ble_eq_true rfl)) (Or.inr (Nat.le_of_ble_eq_true rfl)) (fun e => Bool.noConfusion e) rfl rfl ?_
  refine wq_aload_n (kk := 0) (q := 48) rfl rfl rfl ?_
  refine wq_bipush (n := 120) (q := 50) rfl rfl rfl ?_
  refine wq_newI (n := 120) (q := 52) k_ac_int rfl rfl (Nat.le_of_ble_eq_true rfl) rfl rfl (Nat.le_of_ble_eq_true rfl) (Nat.le_of_ble_eq_true rfl) (Nat.le_of_ble_eq_true rfl) ?_
  rw [hn0]
  refine wq_putF (q := 55) f_Se_31 rfl rfl rfl rfl rfl (Or.inr (Nat.le_of_ble_eq_true rfl)) (Or.inr (Nat.le_of_ble_eq_true rfl)) (fun e => Bool.noConfusion e) rfl rfl ?_
  exact wq_vret rfl rfl (Nat.le_of_ble_eq_true rfl) (Nat.le_of_ble_eq_true rfl) ⟨rfl, rfl, rfl⟩
def x_c_Fl_init_48 (r : mR) : mR := (rup (rnew (rup (rnew r) 48 0 (some 49))) 48 1 (some 50))
set_option maxRecDepth 100000 in
set_option maxHeartbeats 4000000 in
theorem c_Fl_init_48 (r : mR) (hr : r.2 = 49) : Meets false { frames := 2, cells := 2, slots := 130, locals := 80 } m_Fl_init [vR 48] h0 r (fun rv h' r' => rv = none ∧ h' = h0 ∧ r' = x_c_Fl_init_48 r) := by
  obtain ⟨f, n⟩ := r
  cases hr
  refine ⟨ok_Fl_init, (Nat.le_of_ble_eq_true rfl), ?_⟩
  refine wq_aload_n (kk := 0) (q := 1) rfl rfl rfl ?_
  refine wq_objInit (q := 4) k_ol_Fl_3 k_obj_i k_obj_c rfl rfl (Nat.le_of_ble_eq_true rfl) (Nat.le_of_ble_eq_true rfl) (Nat.le_of_ble_eq_true rfl) ?_
  refine wq_aload_n (kk := 0) (q := 5) rfl rfl rfl ?_
  refine wq_bipush (n := 10) (q := 7) rfl rfl rfl ?_
  refine wq_newI (n := 10) (q := 9) k_ac_int rfl rfl (Nat.le_of_ble_eq_true rfl) rfl rfl (Nat.le_of_ble_eq_true rfl) (Nat.le_of_ble_eq_true rfl) (Nat.le_of_ble_eq_true rfl) ?_
  rw [hn0]
  refine wq_putF (q := 12) f_Fl_9 rfl rfl rfl rfl rfl (Or.inr (Nat.le_of_ble_eq_true rfl)) (Or.inr (Nat.le_of_ble_eq_true rfl)) (fun e => Bool.noConfusion e) rfl rfl ?_
  refine wq_aload_n (kk := 0) (q := 13) rfl rfl rfl ?_
  refine wq_bipush (n := 120) (q := 15) rfl rfl rfl ?_
  refine wq_newZ (n := 120) (q := 17) k_ac_boolean rfl rfl (Nat.le_of_ble_eq_true rfl) rfl rfl (Nat.le_of_ble_eq_true rfl) (Nat.le_of_ble_eq_true rfl) (Nat.le_of_ble_eq_true rfl) ?_
  rw [hn0]
  refine wq_putF (q := 20) f_Fl_15 rfl rfl rfl rfl rfl (Or.inr (Nat.le_of_ble_eq_true rfl)) (Or.inr (Nat.le_of_ble_eq_true rfl)) (fun e => Bool.noConfusion e) rfl rfl ?_
  exact wq_vret rfl rfl (Nat.le_of_ble_eq_true rfl) (Nat.le_of_ble_eq_true rfl) ⟨rfl, rfl, rfl⟩
def x_c_Fl_init_51 (r : mR) : mR := (rup (rnew (rup (rnew r) 51 0 (some 52))) 51 1 (some 53))
set_option maxRecDepth 100000 in
set_option maxHeartbeats 4000000 in
theorem c_Fl_init_51 (r : mR) (hr : r.2 = 52) : Meets false { frames := 2, cells := 2, slots := 130, locals := 80 } m_Fl_init [vR 51] h0 r (fun rv h' r' => rv = none ∧ h' = h0 ∧ r' = x_c_Fl_init_51 r) := by
  obtain ⟨f, n⟩ := r
  cases hr
  refine ⟨ok_Fl_init, (Nat.le_of_ble_eq_true rfl), ?_⟩
  refine wq_aload_n (kk := 0) (q := 1) rfl rfl rfl ?_
  refine wq_objInit (q := 4) k_ol_Fl_3 k_obj_i k_obj_c rfl rfl (Nat.le_of_ble_eq_true rfl) (Nat.le_of_ble_eq_true rfl) (Nat.le_of_ble_eq_true rfl) ?_
  refine wq_aload_n (kk := 0) (q := 5) rfl rfl rfl ?_
  refine wq_bipush (n := 10) (q := 7) rfl rfl rfl ?_
  refine wq_newI (n := 10) (q := 9) k_ac_int rfl rfl (Nat.le_of_ble_eq_true rfl) rfl rfl (Nat.le_of_ble_eq_true rfl) (Nat.le_of_ble_eq_true rfl) (Nat.le_of_ble_eq_true rfl) ?_
  rw [hn0]
  refine wq_putF (q := 12) f_Fl_9 rfl rfl rfl rfl rfl (Or.inr (Nat.le_of_ble_eq_true rfl)) (Or.inr (Nat.le_of_ble_eq_true rfl)) (fun e => Bool.noConfusion e) rfl rfl ?_
  refine wq_aload_n (kk := 0) (q := 13) rfl rfl rfl ?_
  refine wq_bipush (n := 120) (q := 15) rfl rfl rfl ?_
  refine wq_newZ (n := 120) (q := 17) k_ac_boolean rfl rfl (Nat.le_of_ble_eq_true rfl) rfl rfl (Nat.le_of_ble_eq_true rfl) (Nat.le_of_ble_eq_true rfl) (Nat.le_of_ble_eq_true rfl) ?_
  rw [hn0]
  refine wq_putF (q := 20) f_Fl_15 rfl rfl rfl rfl rfl (Or.inr (Nat.le_of_ble_eq_true rfl)) (Or.inr (Nat.le_of_ble_eq_true rfl)) (fun e => Bool.noConfusion e) rfl rfl ?_
  exact wq_vret rfl rfl (Nat.le_of_ble_eq_true rfl) (Nat.le_of_ble_eq_true rfl) ⟨rfl, rfl, rfl⟩
def x_c_St_init_54 (r : mR) : mR := (rup (rnew (rup (rnew (rup (rnew r) 54 1 (some 55))) 54 2 (some 56))) 54 3 (some 57))
set_option maxRecDepth 100000 in
set_option maxHeartbeats 4000000 in
theorem c_St_init_54 (r : mR) (hr : r.2 = 55) : Meets false { frames := 2, cells := 3, slots := 360, locals := 80 } m_St_init [vR 54] h0 r (fun rv h' r' => rv = none ∧ h' = h0 ∧ r' = x_c_St_init_54 r) := by
  obtain ⟨f, n⟩ := r
  cases hr
  refine ⟨ok_St_init, (Nat.le_of_ble_eq_true rfl), ?_⟩
  refine wq_aload_n (kk := 0) (q := 1) rfl rfl rfl ?_
  refine wq_objInit (q := 4) k_ol_St_3 k_obj_i k_obj_c rfl rfl (Nat.le_of_ble_eq_true rfl) (Nat.le_of_ble_eq_true rfl) (Nat.le_of_ble_eq_true rfl) ?_
  refine wq_aload_n (kk := 0) (q := 5) rfl rfl rfl ?_
  refine wq_bipush (n := 120) (q := 7) rfl rfl rfl ?_
  refine wq_newI (n := 120) (q := 9) k_ac_int rfl rfl (Nat.le_of_ble_eq_true rfl) rfl rfl (Nat.le_of_ble_eq_true rfl) (Nat.le_of_ble_eq_true rfl) (Nat.le_of_ble_eq_true rfl) ?_
  rw [hn0]
  refine wq_putF (q := 12) f_St_9 rfl rfl rfl rfl rfl (Or.inr (Nat.le_of_ble_eq_true rfl)) (Or.inr (Nat.le_of_ble_eq_true rfl)) (fun e => Bool.noConfusion e) rfl rfl ?_
  refine wq_aload_n (kk := 0) (q := 13) rfl rfl rfl ?_
  refine wq_bipush (n := 120) (q := 15) rfl rfl rfl ?_
  refine wq_newI (n := 120) (q := 17) k_ac_int rfl rfl (Nat.le_of_ble_eq_true rfl) rfl rfl (Nat.le_of_ble_eq_true rfl) (Nat.le_of_ble_eq_true rfl) (Nat.le_of_ble_eq_true rfl) ?_
  rw [hn0]
  refine wq_putF (q := 20) f_St_15 rfl rfl rfl rfl rfl (Or.inr (Nat.le_of_ble_eq_true rfl)) (Or.inr (Nat.le_of_ble_eq_true rfl)) (fun e => Bool.noConfusion e) rfl rfl ?_
  refine wq_aload_n (kk := 0) (q := 21) rfl rfl rfl ?_
  refine wq_bipush (n := 120) (q := 23) rfl rfl rfl ?_
  refine wq_newI (n := 120) (q := 25) k_ac_int rfl rfl (Nat.le_of_ble_eq_true rfl) rfl rfl (Nat.le_of_ble_eq_true rfl) (Nat.le_of_ble_eq_true rfl) (Nat.le_of_ble_eq_true rfl) ?_
  rw [hn0]
  refine wq_putF (q := 28) f_St_18 rfl rfl rfl rfl rfl (Or.inr (Nat.le_of_ble_eq_true rfl)) (Or.inr (Nat.le_of_ble_eq_true rfl)) (fun e => Bool.noConfusion e) rfl rfl ?_
  exact wq_vret rfl rfl (Nat.le_of_ble_eq_true rfl) (Nat.le_of_ble_eq_true rfl) ⟨rfl, rfl, rfl⟩
def x_c_Ba_init_58 (r : mR) : mR := (rup (rnew (rup (rnew (rup (rnew (rup (rnew (rup (rnew r) 58 1 (some 59))) 58 2 (some 60))) 58 3 (some 61))) 58 4 (some 62))) 58 5 (some 63))
set_option maxRecDepth 100000 in
set_option maxHeartbeats 4000000 in
theorem c_Ba_init_58 (r : mR) (hr : r.2 = 59) : Meets false { frames := 2, cells := 5, slots := 600, locals := 80 } m_Ba_init [vR 58] h0 r (fun rv h' r' => rv = none ∧ h' = h0 ∧ r' = x_c_Ba_init_58 r) := by
  obtain ⟨f, n⟩ := r
  cases hr
  refine ⟨ok_Ba_init, (Nat.le_of_ble_eq_true rfl), ?_⟩
  refine wq_aload_n (kk := 0) (q := 1) rfl rfl rfl ?_
  refine wq_objInit (q := 4) k_ol_Ba_3 k_obj_i k_obj_c rfl rfl (Nat.le_of_ble_eq_true rfl) (Nat.le_of_ble_eq_true rfl) (Nat.le_of_ble_eq_true rfl) ?_
  refine wq_aload_n (kk := 0) (q := 5) rfl rfl rfl ?_
  refine wq_bipush (n := 120) (q := 7) rfl rfl rfl ?_
  refine wq_newI (n := 120) (q := 9) k_ac_int rfl rfl (Nat.le_of_ble_eq_true rfl) rfl rfl (Nat.le_of_ble_eq_true rfl) (Nat.le_of_ble_eq_true rfl) (Nat.le_of_ble_eq_true rfl) ?_
  rw [hn0]
  refine wq_putF (q := 12) f_Ba_9 rfl rfl rfl rfl rfl (Or.inr (Nat.le_of_ble_eq_true rfl)) (Or.inr (Nat.le_of_ble_eq_true rfl)) (fun e => Bool.noConfusion e) rfl rfl ?_
  refine wq_aload_n (kk := 0) (q := 13) rfl rfl rfl ?_
  refine wq_bipush (n := 120) (q := 15) rfl rfl rfl ?_
  refine wq_newI (n := 120) (q := 17) k_ac_int rfl rfl (Nat.le_of_ble_eq_true rfl) rfl rfl (Nat.le_of_ble_eq_true rfl) (Nat.le_of_ble_eq_true rfl) (Nat.le_of_ble_eq_true rfl) ?_
  rw [hn0]
  refine wq_putF (q := 20) f_Ba_15 rfl rfl rfl rfl rfl (Or.inr (Nat.le_of_ble_eq_true rfl)) (Or.inr (Nat.le_of_ble_eq_true rfl)) (fun e => Bool.noConfusion e) rfl rfl ?_
  refine wq_aload_n (kk := 0) (q := 21) rfl rfl rfl ?_
  refine wq_bipush (n := 120) (q := 23) rfl rfl rfl ?_
  refine wq_newI (n := 120) (q := 25) k_ac_int rfl rfl (Nat.le_of_ble_eq_true rfl) rfl rfl (Nat.le_of_ble_eq_true rfl) (Nat.le_of_ble_eq_true rfl) (Nat.le_of_ble_eq_true rfl) ?_
  rw [hn0]
  refine wq_putF (q := 28) f_Ba_18 rfl rfl rfl rfl rfl (Or.inr (Nat.le_of_ble_eq_true rfl)) (Or.inr (Nat.le_of_ble_eq_true rfl)) (fun e => Bool.noConfusion e) rfl rfl ?_
  refine wq_aload_n (kk := 0) (q := 29) rfl rfl rfl ?_
  refine wq_bipush (n := 120) (q := 31) rfl rfl rfl ?_
  refine wq_newI (n := 120) (q := 33) k_ac_int rfl rfl (Nat.le_of_ble_eq_true rfl) rfl rfl (Nat.le_of_ble_eq_true rfl) (Nat.le_of_ble_eq_true rfl) (Nat.le_of_ble_eq_true rfl) ?_
  rw [hn0]
  refine wq_putR (q := 36) f_Ba_21 rfl rfl rfl (Or.inr (Nat.le_of_ble_eq_true rfl)) (Or.inr (Nat.le_of_ble_eq_true rfl)) (fun e => Bool.noConfusion e) rfl rfl ?_
  refine wq_aload_n (kk := 0) (q := 37) rfl rfl rfl ?_
  refine wq_bipush (n := 120) (q := 39) rfl rfl rfl ?_
  refine wq_newI (n := 120) (q := 41) k_ac_int rfl rfl (Nat.le_of_ble_eq_true rfl) rfl rfl (Nat.le_of_ble_eq_true rfl) (Nat.le_of_ble_eq_true rfl) (Nat.le_of_ble_eq_true rfl) ?_
  rw [hn0]
  refine wq_putR (q := 44) f_Ba_24 rfl rfl rfl (Or.inr (Nat.le_of_ble_eq_true rfl)) (Or.inr (Nat.le_of_ble_eq_true rfl)) (fun e => Bool.noConfusion e) rfl rfl ?_
  exact wq_vret rfl rfl (Nat.le_of_ble_eq_true rfl) (Nat.le_of_ble_eq_true rfl) ⟨rfl, rfl, rfl⟩
def x_c_Lt_init_0 (r : mR) : mR := (rup (x_c_Ba_init_58 (rnew (rup (x_c_St_init_54 (rnew (rup (x_c_Fl_init_51 (rnew (rup (x_c_Fl_init_48 (rnew (rup (x_c_Se_init_40 (rnew (rup (x_c_Ne_init_31 (rnew (rup (x_c_Lo_init_27 (rnew (rup (x_c_Re_init_24 (rnew (rup (x_c_De_init_13 (rnew (rup (x_c_De_init_2 (rnew (rup (rnew r) 0 0 (some 1)))) 0 2 (some 2)))) 0 3 (some 13)))) 0 4 (some 24)))) 0 5 (some 27)))) 0 6 (some 31)))) 0 7 (some 40)))) 0 8 (some 48)))) 0 9 (some 51)))) 0 10 (some 54)))) 0 11 (some 58))
set_option maxRecDepth 100000 in
set_option maxHeartbeats 4000000 in
theorem c_Lt_init_0 (r : mR) (hr : r.2 = 1) : Meets false { frames := 4, cells := 63, slots := 5452, locals := 160 } m_Lt_init [vR 0] h0 r (fun rv h' r' => rv = none ∧ h' = h0 ∧ r' = x_c_Lt_init_0 r) := by
  obtain ⟨f, n⟩ := r
  cases hr
  refine ⟨ok_Lt_init, (Nat.le_of_ble_eq_true rfl), ?_⟩
  refine wq_aload_n (kk := 0) (q := 1) rfl rfl rfl ?_
  refine wq_objInit (q := 4) k_ol_Lt_1 k_obj_i k_obj_c rfl rfl (Nat.le_of_ble_eq_true rfl) (Nat.le_of_ble_eq_true rfl) (Nat.le_of_ble_eq_true rfl) ?_
  refine wq_aload_n (kk := 0) (q := 5) rfl rfl rfl ?_
  refine wq_sipush (n := 900) (q := 8) rfl rfl rfl ?_
  refine wq_newB (n := 900) (q := 10) k_ac_byte rfl rfl (Nat.le_of_ble_eq_true rfl) rfl rfl (Nat.le_of_ble_eq_true rfl) (Nat.le_of_ble_eq_true rfl) (Nat.le_of_ble_eq_true rfl) ?_
  rw [hn0]
  refine wq_putF (q := 13) f_Lt_9 rfl rfl rfl rfl rfl (Or.inr (Nat.le_of_ble_eq_true rfl)) (Or.inr (Nat.le_of_ble_eq_true rfl)) (fun e => Bool.noConfusion e) rfl rfl ?_
  refine wq_aload_n (kk := 0) (q := 14) rfl rfl rfl ?_
  refine wq_new (ci := 1) (q := 17) k_cl_Lt_13 k_ins_1 k_ini_1 rfl rfl rfl rfl rfl (Nat.le_of_ble_eq_true rfl) (Nat.le_of_ble_eq_true rfl) (Nat.le_of_ble_eq_true rfl) ?_
  rw [hn0]
  refine wq_dup (q := 18) rfl rfl rfl ?_
  refine wq_callIN (q := 21) (m' := m_De_init) (As := []) (rest := [vR 2, vR 0]) rfl rfl (by decide +kernel) in_De_init rfl rfl rfl (Nat.le_of_ble_eq_true rfl) (Nat.le_of_ble_eq_true rfl) (Nat.le_of_ble_eq_true rfl) (Nat.le_of_ble_eq_true rfl) (Nat.le_of_ble_eq_true rfl) (c_De_init_2 _ rfl) rfl ?_
  rintro rv h1 r1 ⟨rfl, rfl, rfl⟩ -
  refine wq_putR (q := 24) f_Lt_16 rfl rfl rfl (Or.inr (Nat.le_of_ble_eq_true rfl)) (Or.inr (Nat.le_of_ble_eq_true rfl)) (fun e => Bool.noConfusion e) rfl rfl ?_
  refine wq_aload_n (kk := 0) (q := 25) rfl rfl rfl ?_
  refine wq_new (ci := 1) (q := 28) k_cl_Lt_13 k_ins_1 k_ini_1 rfl rfl rfl rfl rfl (Nat.le_of_ble_eq_true rfl) (Nat.le_of_ble_eq_true rfl) (Nat.le_of_ble_eq_true rfl) ?_
  rw [hn0]
  refine wq_dup (q := 29) rfl rfl rfl ?_
  refine wq_callIN (q := 32) (m' := m_De_init) (As := []) (rest := [vR 13, vR 0]) rfl rfl (by decide +kernel) in_De_init rfl rfl rfl (Nat.le_of_ble_eq_true rfl) (Nat.le_of_ble_eq_true rfl) (Nat.le_of_ble_eq_true rfl) (Nat.le_of_ble_eq_true rfl) (Nat.le_of_ble_eq_true rfl) (c_De_init_13 _ rfl) rfl ?_
  rintro rv h1 r1 ⟨rfl, rfl, rfl⟩ -
  refine wq_putR (q := 35) f_Lt_20 rfl rfl rfl (Or.inr (Nat.le_of_ble_eq_true rfl)) (Or.inr (Nat.le_of_ble_eq_true rfl)) (fun e => Bool.noConfusion e) rfl rfl ?_
  refine wq_aload_n (kk := 0) (q := 36) rfl rfl rfl ?_
  refine wq_new (ci := 5) (q := 39) k_cl_Lt_23 k_ins_5 k_ini_5 rfl rfl rfl rfl rfl (Nat.le_of_ble_eq_true rfl) (Nat.le_of_ble_eq_true rfl) (Nat.le_of_ble_eq_true rfl) ?_
  rw [hn0]
  refine wq_dup (q := 40) rfl rfl rfl ?_
  refine wq_aload_n (kk := 0) (q := 41) rfl rfl rfl ?_
  refine wq_getR (t := 1) (q := 44) f_Lt_9 rfl rfl (Or.inr (Nat.le_of_ble_eq_true rfl)) rfl rfl rfl ?_
  refine wq_aload_n (kk := 0) (q := 45) rfl rfl rfl ?_
  refine wq_getR (t := 13) (q := 48) f_Lt_20 rfl rfl (Or.inr (Nat.le_of_ble_eq_true rfl)) rfl rfl rfl ?_
  refine wq_callI (q := 51) (m' := m_Re_init) (As := [vR 1, vR 13]) (rest := [vR 24, vR 0]) rfl rfl l_Lt_25 in_Re_init rfl rfl rfl (Nat.le_of_ble_eq_true rfl) (Nat.le_of_ble_eq_true rfl) (Nat.le_of_ble_eq_true rfl) (Nat.le_of_ble_eq_true rfl) (Nat.le_of_ble_eq_true rfl) (c_Re_init_24 _ rfl) rfl ?_
  rintro rv h1 r1 ⟨rfl, rfl, rfl⟩ -
  refine wq_putF (q := 54) f_Lt_28 rfl rfl rfl rfl rfl (Or.inr (Nat.le_of_ble_eq_true rfl)) (Or.inr (Nat.le_of_ble_eq_true rfl)) (fun e => Bool.noConfusion e) rfl rfl ?_
  refine wq_aload_n (kk := 0) (q := 55) rfl rfl rfl ?_
  refine wq_new (ci := 3) (q := 58) k_cl_Lt_32 k_ins_3 k_ini_3 rfl rfl rfl rfl rfl (Nat.le_of_ble_eq_true rfl) (Nat.le_of_ble_eq_true rfl) (Nat.le_of_ble_eq_true rfl) ?_
  rw [hn0]
  refine wq_dup (q := 59) rfl rfl rfl ?_
  refine wq_callIN (q := 62) (m' := m_Lo_init) (As := []) (rest := [vR 27, vR 0]) rfl rfl (by decide +kernel) in_Lo_init rfl rfl rfl (Nat.le_of_ble_eq_true rfl) (Nat.le_of_ble_eq_true rfl) (Nat.le_of_ble_eq_true rfl) (Nat.le_of_ble_eq_true rfl) (Nat.le_of_ble_eq_true rfl) (c_Lo_init_27 _ rfl) rfl ?_
  rintro rv h1 r1 ⟨rfl, rfl, rfl⟩ -
  refine wq_putF (q := 65) f_Lt_35 rfl rfl rfl rfl rfl (Or.inr (Nat.le_of_ble_eq_true rfl)) (Or.inr (Nat.le_of_ble_eq_true rfl)) (fun e => Bool.noConfusion e) rfl rfl ?_
  refine wq_aload_n (kk := 0) (q := 66) rfl rfl rfl ?_
  refine wq_new (ci := 4) (q := 69) k_cl_Lt_39 k_ins_4 k_ini_4 rfl rfl rfl rfl rfl (Nat.le_of_ble_eq_true rfl) (Nat.le_of_ble_eq_true rfl) (Nat.le_of_ble_eq_true rfl) ?_
  rw [hn0]
  refine wq_dup (q := 70) rfl rfl rfl ?_
  refine wq_aload_n (kk := 0) (q := 71) rfl rfl rfl ?_
  refine wq_getR (t := 2) (q := 74) f_Lt_16 rfl rfl (Or.inr (Nat.le_of_ble_eq_true rfl)) rfl rfl rfl ?_
  refine wq_callI (q := 77) (m' := m_Ne_init) (As := [vR 2]) (rest := [vR 31, vR 0]) rfl rfl l_Lt_41 in_Ne_init rfl rfl rfl (Nat.le_of_ble_eq_true rfl) (Nat.le_of_ble_eq_true rfl) (Nat.le_of_ble_eq_true rfl) (Nat.le_of_ble_eq_true rfl) (Nat.le_of_ble_eq_true rfl) (c_Ne_init_31 _ rfl) rfl ?_
  rintro rv h1 r1 ⟨rfl, rfl, rfl⟩ -
  refine wq_putF (q := 80) f_Lt_44 rfl rfl rfl rfl rfl (Or.inr (Nat.le_of_ble_eq_true rfl)) (Or.inr (Nat.le_of_ble_eq_true rfl)) (fun e => Bool.noConfusion e) rfl rfl ?_
  refine wq_aload_n (kk := 0) (q := 81) rfl rfl rfl ?_
  refine wq_new (ci := 6) (q := 84) k_cl_Lt_48 k_ins_6 k_ini_6 rfl rfl rfl rfl rfl (Nat.le_of_ble_eq_true rfl) (Nat.le_of_ble_eq_true rfl) (Nat.le_of_ble_eq_true rfl) ?_
  rw [hn0]
  refine wq_dup (q := 85) rfl rfl rfl ?_
  refine wq_callIN (q := 88) (m' := m_Se_init) (As := []) (rest := [vR 40, vR 0]) rfl rfl (by decide +kernel) in_Se_init rfl rfl rfl (Nat.le_of_ble_eq_true rfl) (Nat.le_of_ble_eq_true rfl) (Nat.le_of_ble_eq_true rfl) (Nat.le_of_ble_eq_true rfl) (Nat.le_of_ble_eq_true rfl) (c_Se_init_40 _ rfl) rfl ?_
  rintro rv h1 r1 ⟨rfl, rfl, rfl⟩ -
  refine wq_putF (q := 91) f_Lt_51 rfl rfl rfl rfl rfl (Or.inr (Nat.le_of_ble_eq_true rfl)) (Or.inr (Nat.le_of_ble_eq_true rfl)) (fun e => Bool.noConfusion e) rfl rfl ?_
  refine wq_aload_n (kk := 0) (q := 92) rfl rfl rfl ?_
  refine wq_new (ci := 2) (q := 95) k_cl_Lt_55 k_ins_2 k_ini_2 rfl rfl rfl rfl rfl (Nat.le_of_ble_eq_true rfl) (Nat.le_of_ble_eq_true rfl) (Nat.le_of_ble_eq_true rfl) ?_
  rw [hn0]
  refine wq_dup (q := 96) rfl rfl rfl ?_
  refine wq_callIN (q := 99) (m' := m_Fl_init) (As := []) (rest := [vR 48, vR 0]) rfl rfl (by decide +kernel) in_Fl_init rfl rfl rfl (Nat.le_of_ble_eq_true rfl) (Nat.le_of_ble_eq_true rfl) (Nat.le_of_ble_eq_true rfl) (Nat.le_of_ble_eq_true rfl) (Nat.le_of_ble_eq_true rfl) (c_Fl_init_48 _ rfl) rfl ?_
  rintro rv h1 r1 ⟨rfl, rfl, rfl⟩ -
  refine wq_putF (q := 102) f_Lt_58 rfl rfl rfl rfl rfl (Or.inr (Nat.le_of_ble_eq_true rfl)) (Or.inr (Nat.le_of_ble_eq_true rfl)) (fun e => Bool.noConfusion e) rfl rfl ?_
  refine wq_aload_n (kk := 0) (q := 103) rfl rfl rfl ?_
  refine wq_new (ci := 2) (q := 106) k_cl_Lt_55 k_ins_2 k_ini_2 rfl rfl rfl rfl rfl (Nat.le_of_ble_eq_true rfl) (Nat.le_of_ble_eq_true rfl) (Nat.le_of_ble_eq_true rfl) ?_
  rw [hn0]
  refine wq_dup (q := 107) rfl rfl rfl ?_
  refine wq_callIN (q := 110) (m' := m_Fl_init) (As := []) (rest := [vR 51, vR 0]) rfl rfl (by decide +kernel) in_Fl_init rfl rfl rfl (Nat.le_of_ble_eq_true rfl) (Nat.le_of_ble_eq_true rfl) (Nat.le_of_ble_eq_true rfl) (Nat.le_of_ble_eq_true rfl) (Nat.le_of_ble_eq_true rfl) (c_Fl_init_51 _ rfl) rfl ?_
  rintro rv h1 r1 ⟨rfl, rfl, rfl⟩ -
  refine wq_putF (q := 113) f_Lt_62 rfl rfl rfl rfl rfl (Or.inr (Nat.le_of_ble_eq_true rfl)) (Or.inr (Nat.le_of_ble_eq_true rfl)) (fun e => Bool.noConfusion e) rfl rfl ?_
  refine wq_aload_n (kk := 0) (q := 114) rfl rfl rfl ?_
  refine wq_new (ci := 7) (q := 117) k_cl_Lt_65 k_ins_7 k_ini_7 rfl rfl rfl rfl rfl (Nat.le_of_ble_eq_true rfl) (Nat.le_of_ble_eq_true rfl) (Nat.le_of_ble_eq_true rfl) ?_
  rw [hn0]
  refine wq_dup (q := 118) rfl rfl rfl ?_
  refine wq_callIN (q := 121) (m' := m_St_init) (As := []) (rest := [vR 54, vR 0]) rfl rfl (by decide +kernel) in_St_init rfl rfl rfl (Nat.le_of_ble_eq_true rfl) (Nat.le_of_ble_eq_true rfl) (Nat.le_of_ble_eq_true rfl) (Nat.le_of_ble_eq_true rfl) (Nat.le_of_ble_eq_true rfl) (c_St_init_54 _ rfl) rfl ?_
  rintro rv h1 r1 ⟨rfl, rfl, rfl⟩ -
  refine wq_putF (q := 124) f_Lt_68 rfl rfl rfl rfl rfl (Or.inr (Nat.le_of_ble_eq_true rfl)) (Or.inr (Nat.le_of_ble_eq_true rfl)) (fun e => Bool.noConfusion e) rfl rfl ?_
  refine wq_aload_n (kk := 0) (q := 125) rfl rfl rfl ?_
  refine wq_new (ci := 0) (q := 128) k_cl_Lt_72 k_ins_0 k_ini_0 rfl rfl rfl rfl rfl (Nat.le_of_ble_eq_true rfl) (Nat.le_of_ble_eq_true rfl) (Nat.le_of_ble_eq_true rfl) ?_
  rw [hn0]
  refine wq_dup (q := 129) rfl rfl rfl ?_
  refine wq_callIN (q := 132) (m' := m_Ba_init) (As := []) (rest := [vR 58, vR 0]) rfl rfl (by decide +kernel) in_Ba_init rfl rfl rfl (Nat.le_of_ble_eq_true rfl) (Nat.le_of_ble_eq_true rfl) (Nat.le_of_ble_eq_true rfl) (Nat.le_of_ble_eq_true rfl) (Nat.le_of_ble_eq_true rfl) (c_Ba_init_58 _ rfl) rfl ?_
  rintro rv h1 r1 ⟨rfl, rfl, rfl⟩ -
  refine wq_putF (q := 135) f_Lt_75 rfl rfl rfl rfl rfl (Or.inr (Nat.le_of_ble_eq_true rfl)) (Or.inr (Nat.le_of_ble_eq_true rfl)) (fun e => Bool.noConfusion e) rfl rfl ?_
  exact wq_vret rfl rfl (Nat.le_of_ble_eq_true rfl) (Nat.le_of_ble_eq_true rfl) ⟨rfl, rfl, rfl⟩
def x_c_Mo_init_64 (r : mR) : mR := (rup (rnew (rup (rnew (rup (rnew (rup (rnew (rup (rnew (rup (rnew (rup (rnew (rup (rnew (rup (rnew (rup (rnew (rup (rnew (rup (rnew (rup (rnew (rup (rnew (rup (rnew (rup (rnew (rup (rnew (rup (rnew (rup (rnew (rup (rnew (rup (rnew r) 64 4 (some 65))) 64 6 (some 66))) 64 7 (some 67))) 64 8 (some 68))) 64 9 (some 69))) 64 20 (some 70))) 64 21 (some 71))) 64 22 (some 72))) 64 23 (some 73))) 64 24 (some 74))) 64 25 (some 75))) 64 26 (some 76))) 64 27 (some 77))) 64 29 (some 78))) 64 30 (some 79))) 64 31 (some 80))) 64 33 (some 81))) 64 34 (some 82))) 64 35 (some 83))) 64 37 (some 84))) 64 39 (some 85))
set_option maxRecDepth 100000 in
set_option maxHeartbeats 4000000 in
theorem c_Mo_init_64 (r : mR) (hr : r.2 = 65) : Meets false { frames := 2, cells := 21, slots := 29460, locals := 80 } m_Mo_init [vR 64] h0 r (fun rv h' r' => rv = none ∧ h' = (hup h0 64 3 (-1)) ∧ r' = x_c_Mo_init_64 r) := by
  obtain ⟨f, n⟩ := r
  cases hr
  have hn1 : ∀ n, 64 < n → hnew (hup h0 64 3 (-1)) n = (hup h0 64 3 (-1)) := by
    intro n hn; funext a b; unfold hnew hup; split
    · rw [if_neg (by omega)]
    · rfl
  refine ⟨ok_Mo_init, (Nat.le_of_ble_eq_true rfl), ?_⟩
  refine wq_aload_n (kk := 0) (q := 1) rfl rfl rfl ?_
  refine wq_objInit (q := 4) k_ol_Mo_3 k_obj_i k_obj_c rfl rfl (Nat.le_of_ble_eq_true rfl) (Nat.le_of_ble_eq_true rfl) (Nat.le_of_ble_eq_true rfl) ?_
  refine wq_aload_n (kk := 0) (q := 5) rfl rfl rfl ?_
  refine wq_iconst (n := -1) (q := 6) rfl rfl rfl ?_
  refine wq_putI (kz := 3) (q := 9) rfl f_Mo_9 rfl rfl rfl (Or.inr (Nat.le_of_ble_eq_true rfl)) rfl rfl ?_
  refine wq_aload_n (kk := 0) (q := 10) rfl rfl rfl ?_
  refine wq_sipush (n := 900) (q := 13) rfl rfl rfl ?_
  refine wq_newI (n := 900) (q := 15) k_ac_int rfl rfl (Nat.le_of_ble_eq_true rfl) rfl rfl (Nat.le_of_ble_eq_true rfl) (Nat.le_of_ble_eq_true rfl) (Nat.le_of_ble_eq_true rfl) ?_
  rw [hn1 _ (Nat.le_of_ble_eq_true rfl)]
  refine wq_putF (q := 18) f_Mo_13 rfl rfl rfl rfl rfl (Or.inr (Nat.le_of_ble_eq_true rfl)) (Or.inr (Nat.le_of_ble_eq_true rfl)) (fun e => Bool.noConfusion e) rfl rfl ?_
  refine wq_aload_n (kk := 0) (q := 19) rfl rfl rfl ?_
  refine wq_sipush (n := 985) (q := 22) rfl rfl rfl ?_
  refine wq_newI (n := 985) (q := 24) k_ac_int rfl rfl (Nat.le_of_ble_eq_true rfl) rfl rfl (Nat.le_of_ble_eq_true rfl) (Nat.le_of_ble_eq_true rfl) (Nat.le_of_ble_eq_true rfl) ?_
  rw [hn1 _ (Nat.le_of_ble_eq_true rfl)]
  refine wq_putF (q := 27) f_Mo_17 rfl rfl rfl rfl rfl (Or.inr (Nat.le_of_ble_eq_true rfl)) (Or.inr (Nat.le_of_ble_eq_true rfl)) (fun e => Bool.noConfusion e) rfl rfl ?_
  refine wq_aload_n (kk := 0) (q := 28) rfl rfl rfl ?_
  refine wq_sipush (n := 985) (q := 31) rfl rfl rfl ?_
  refine wq_newI (n := 985) (q := 33) k_ac_int rfl rfl (Nat.le_of_ble_eq_true rfl) rfl rfl (Nat.le_of_ble_eq_true rfl) (Nat.le_of_ble_eq_true rfl) (Nat.le_of_ble_eq_true rfl) ?_
  rw [hn1 _ (Nat.le_of_ble_eq_true rfl)]
  refine wq_putF (q := 36) f_Mo_20 rfl rfl rfl rfl rfl (Or.inr (Nat.le_of_ble_eq_true rfl)) (Or.inr (Nat.le_of_ble_eq_true rfl)) (fun e => Bool.noConfusion e) rfl rfl ?_
  refine wq_aload_n (kk := 0) (q := 37) rfl rfl rfl ?_
  refine wq_sipush (n := 985) (q := 40) rfl rfl rfl ?_
  refine wq_newI (n := 985) (q := 42) k_ac_int rfl rfl (Nat.le_of_ble_eq_true rfl) rfl rfl (Nat.le_of_ble_eq_true rfl) (Nat.le_of_ble_eq_true rfl) (Nat.le_of_ble_eq_true rfl) ?_
  rw [hn1 _ (Nat.le_of_ble_eq_true rfl)]
  refine wq_putF (q := 45) f_Mo_23 rfl rfl rfl rfl rfl (Or.inr (Nat.le_of_ble_eq_true rfl)) (Or.inr (Nat.le_of_ble_eq_true rfl)) (fun e => Bool.noConfusion e) rfl rfl ?_
  refine wq_aload_n (kk := 0) (q := 46) rfl rfl rfl ?_
  refine wq_sipush (n := 9850) (q := 49) rfl rfl rfl ?_
  refine wq_newI (n := 9850) (q := 51) k_ac_int rfl rfl (Nat.le_of_ble_eq_true rfl) rfl rfl (Nat.le_of_ble_eq_true rfl) (Nat.le_of_ble_eq_true rfl) (Nat.le_of_ble_eq_true rfl) ?_
  rw [hn1 _ (Nat.le_of_ble_eq_true rfl)]
  refine wq_putF (q := 54) f_Mo_26 rfl rfl rfl rfl rfl (Or.inr (Nat.le_of_ble_eq_true rfl)) (Or.inr (Nat.le_of_ble_eq_true rfl)) (fun e => Bool.noConfusion e) rfl rfl ?_
  refine wq_aload_n (kk := 0) (q := 55) rfl rfl rfl ?_
  refine wq_bipush (n := 10) (q := 57) rfl rfl rfl ?_
  refine wq_newL (n := 10) (q := 59) k_ac_long rfl rfl (Nat.le_of_ble_eq_true rfl) rfl rfl (Nat.le_of_ble_eq_true rfl) (Nat.le_of_ble_eq_true rfl) (Nat.le_of_ble_eq_true rfl) ?_
  rw [hn1 _ (Nat.le_of_ble_eq_true rfl)]
  refine wq_putF (q := 62) f_Mo_29 rfl rfl rfl rfl rfl (Or.inr (Nat.le_of_ble_eq_true rfl)) (Or.inr (Nat.le_of_ble_eq_true rfl)) (fun e => Bool.noConfusion e) rfl rfl ?_
  refine wq_aload_n (kk := 0) (q := 63) rfl rfl rfl ?_
  refine wq_bipush (n := 8) (q := 65) rfl rfl rfl ?_
  refine wq_newL (n := 8) (q := 67) k_ac_long rfl rfl (Nat.le_of_ble_eq_true rfl) rfl rfl (Nat.le_of_ble_eq_true rfl) (Nat.le_of_ble_eq_true rfl) (Nat.le_of_ble_eq_true rfl) ?_
  rw [hn1 _ (Nat.le_of_ble_eq_true rfl)]
  refine wq_putF (q := 70) f_Mo_33 rfl rfl rfl rfl rfl (Or.inr (Nat.le_of_ble_eq_true rfl)) (Or.inr (Nat.le_of_ble_eq_true rfl)) (fun e => Bool.noConfusion e) rfl rfl ?_
  refine wq_aload_n (kk := 0) (q := 71) rfl rfl rfl ?_
  refine wq_bipush (n := 7) (q := 73) rfl rfl rfl ?_
  refine wq_newI (n := 7) (q := 75) k_ac_int rfl rfl (Nat.le_of_ble_eq_true rfl) rfl rfl (Nat.le_of_ble_eq_true rfl) (Nat.le_of_ble_eq_true rfl) (Nat.le_of_ble_eq_true rfl) ?_
  rw [hn1 _ (Nat.le_of_ble_eq_true rfl)]
  refine wq_putF (q := 78) f_Mo_36 rfl rfl rfl rfl rfl (Or.inr (Nat.le_of_ble_eq_true rfl)) (Or.inr (Nat.le_of_ble_eq_true rfl)) (fun e => Bool.noConfusion e) rfl rfl ?_
  refine wq_aload_n (kk := 0) (q := 79) rfl rfl rfl ?_
  refine wq_bipush (n := 120) (q := 81) rfl rfl rfl ?_
  refine wq_newI (n := 120) (q := 83) k_ac_int rfl rfl (Nat.le_of_ble_eq_true rfl) rfl rfl (Nat.le_of_ble_eq_true rfl) (Nat.le_of_ble_eq_true rfl) (Nat.le_of_ble_eq_true rfl) ?_
  rw [hn1 _ (Nat.le_of_ble_eq_true rfl)]
  refine wq_putF (q := 86) f_Mo_39 rfl rfl rfl rfl rfl (Or.inr (Nat.le_of_ble_eq_true rfl)) (Or.inr (Nat.le_of_ble_eq_true rfl)) (fun e => Bool.noConfusion e) rfl rfl ?_
  refine wq_aload_n (kk := 0) (q := 87) rfl rfl rfl ?_
  refine wq_bipush (n := 120) (q := 89) rfl rfl rfl ?_
  refine wq_newI (n := 120) (q := 91) k_ac_int rfl rfl (Nat.le_of_ble_eq_true rfl) rfl rfl (Nat.le_of_ble_eq_true rfl) (Nat.le_of_ble_eq_true rfl) (Nat.le_of_ble_eq_true rfl) ?_
  rw [hn1 _ (Nat.le_of_ble_eq_true rfl)]
  refine wq_putF (q := 94) f_Mo_42 rfl rfl rfl rfl rfl (Or.inr (Nat.le_of_ble_eq_true rfl)) (Or.inr (Nat.le_of_ble_eq_true rfl)) (fun e => Bool.noConfusion e) rfl rfl ?_
  refine wq_aload_n (kk := 0) (q := 95) rfl rfl rfl ?_
  refine wq_bipush (n := 120) (q := 97) rfl rfl rfl ?_
  refine wq_newI (n := 120) (q := 99) k_ac_int rfl rfl (Nat.le_of_ble_eq_true rfl) rfl rfl (Nat.le_of_ble_eq_true rfl) (Nat.le_of_ble_eq_true rfl) (Nat.le_of_ble_eq_true rfl) ?_
  rw [hn1 _ (Nat.le_of_ble_eq_true rfl)]
  refine wq_putF (q := 102) f_Mo_45 rfl rfl rfl rfl rfl (Or.inr (Nat.le_of_ble_eq_true rfl)) (Or.inr (Nat.le_of_ble_eq_true rfl)) (fun e => Bool.noConfusion e) rfl rfl ?_
  refine wq_aload_n (kk := 0) (q := 103) rfl rfl rfl ?_
  refine wq_bipush (n := 120) (q := 105) rfl rfl rfl ?_
  refine wq_newI (n := 120) (q := 107) k_ac_int rfl rfl (Nat.le_of_ble_eq_true rfl) rfl rfl (Nat.le_of_ble_eq_true rfl) (Nat.le_of_ble_eq_true rfl) (Nat.le_of_ble_eq_true rfl) ?_
  rw [hn1 _ (Nat.le_of_ble_eq_true rfl)]
  refine wq_putF (q := 110) f_Mo_48 rfl rfl rfl rfl rfl (Or.inr (Nat.le_of_ble_eq_true rfl)) (Or.inr (Nat.le_of_ble_eq_true rfl)) (fun e => Bool.noConfusion e) rfl rfl ?_
  refine wq_aload_n (kk := 0) (q := 111) rfl rfl rfl ?_
  refine wq_bipush (n := 120) (q := 113) rfl rfl rfl ?_
  refine wq_newI (n := 120) (q := 115) k_ac_int rfl rfl (Nat.le_of_ble_eq_true rfl) rfl rfl (Nat.le_of_ble_eq_true rfl) (Nat.le_of_ble_eq_true rfl) (Nat.le_of_ble_eq_true rfl) ?_
  rw [hn1 _ (Nat.le_of_ble_eq_true rfl)]
  refine wq_putF (q := 118) f_Mo_51 rfl rfl rfl rfl rfl (Or.inr (Nat.le_of_ble_eq_true rfl)) (Or.inr (Nat.le_of_ble_eq_true rfl)) (fun e => Bool.noConfusion e) rfl rfl ?_
  refine wq_aload_n (kk := 0) (q := 119) rfl rfl rfl ?_
  refine wq_sipush (n := 14400) (q := 122) rfl rfl rfl ?_
  refine wq_newI (n := 14400) (q := 124) k_ac_int rfl rfl (Nat.le_of_ble_eq_true rfl) rfl rfl (Nat.le_of_ble_eq_true rfl) (Nat.le_of_ble_eq_true rfl) (Nat.le_of_ble_eq_true rfl) ?_
  rw [hn1 _ (Nat.le_of_ble_eq_true rfl)]
  refine wq_putF (q := 127) f_Mo_54 rfl rfl rfl rfl rfl (Or.inr (Nat.le_of_ble_eq_true rfl)) (Or.inr (Nat.le_of_ble_eq_true rfl)) (fun e => Bool.noConfusion e) rfl rfl ?_
  refine wq_aload_n (kk := 0) (q := 128) rfl rfl rfl ?_
  refine wq_bipush (n := 120) (q := 130) rfl rfl rfl ?_
  refine wq_newI (n := 120) (q := 132) k_ac_int rfl rfl (Nat.le_of_ble_eq_true rfl) rfl rfl (Nat.le_of_ble_eq_true rfl) (Nat.le_of_ble_eq_true rfl) (Nat.le_of_ble_eq_true rfl) ?_
  rw [hn1 _ (Nat.le_of_ble_eq_true rfl)]
  refine wq_putF (q := 135) f_Mo_57 rfl rfl rfl rfl rfl (Or.inr (Nat.le_of_ble_eq_true rfl)) (Or.inr (Nat.le_of_ble_eq_true rfl)) (fun e => Bool.noConfusion e) rfl rfl ?_
  refine wq_aload_n (kk := 0) (q := 136) rfl rfl rfl ?_
  refine wq_bipush (n := 120) (q := 138) rfl rfl rfl ?_
  refine wq_newI (n := 120) (q := 140) k_ac_int rfl rfl (Nat.le_of_ble_eq_true rfl) rfl rfl (Nat.le_of_ble_eq_true rfl) (Nat.le_of_ble_eq_true rfl) (Nat.le_of_ble_eq_true rfl) ?_
  rw [hn1 _ (Nat.le_of_ble_eq_true rfl)]
  refine wq_putF (q := 143) f_Mo_60 rfl rfl rfl rfl rfl (Or.inr (Nat.le_of_ble_eq_true rfl)) (Or.inr (Nat.le_of_ble_eq_true rfl)) (fun e => Bool.noConfusion e) rfl rfl ?_
  refine wq_aload_n (kk := 0) (q := 144) rfl rfl rfl ?_
  refine wq_bipush (n := 120) (q := 146) rfl rfl rfl ?_
  refine wq_newI (n := 120) (q := 148) k_ac_int rfl rfl (Nat.le_of_ble_eq_true rfl) rfl rfl (Nat.le_of_ble_eq_true rfl) (Nat.le_of_ble_eq_true rfl) (Nat.le_of_ble_eq_true rfl) ?_
  rw [hn1 _ (Nat.le_of_ble_eq_true rfl)]
  refine wq_putF (q := 151) f_Mo_63 rfl rfl rfl rfl rfl (Or.inr (Nat.le_of_ble_eq_true rfl)) (Or.inr (Nat.le_of_ble_eq_true rfl)) (fun e => Bool.noConfusion e) rfl rfl ?_
  refine wq_aload_n (kk := 0) (q := 152) rfl rfl rfl ?_
  refine wq_bipush (n := 120) (q := 154) rfl rfl rfl ?_
  refine wq_newI (n := 120) (q := 156) k_ac_int rfl rfl (Nat.le_of_ble_eq_true rfl) rfl rfl (Nat.le_of_ble_eq_true rfl) (Nat.le_of_ble_eq_true rfl) (Nat.le_of_ble_eq_true rfl) ?_
  rw [hn1 _ (Nat.le_of_ble_eq_true rfl)]
  refine wq_putF (q := 159) f_Mo_66 rfl rfl rfl rfl rfl (Or.inr (Nat.le_of_ble_eq_true rfl)) (Or.inr (Nat.le_of_ble_eq_true rfl)) (fun e => Bool.noConfusion e) rfl rfl ?_
  refine wq_aload_n (kk := 0) (q := 160) rfl rfl rfl ?_
  refine wq_bipush (n := 120) (q := 162) rfl rfl rfl ?_
  refine wq_newI (n := 120) (q := 164) k_ac_int rfl rfl (Nat.le_of_ble_eq_true rfl) rfl rfl (Nat.le_of_ble_eq_true rfl) (Nat.le_of_ble_eq_true rfl) (Nat.le_of_ble_eq_true rfl) ?_
  rw [hn1 _ (Nat.le_of_ble_eq_true rfl)]
  refine wq_putF (q := 167) f_Mo_69 rfl rfl rfl rfl rfl (Or.inr (Nat.le_of_ble_eq_true rfl)) (Or.inr (Nat.le_of_ble_eq_true rfl)) (fun e => Bool.noConfusion e) rfl rfl ?_
  refine wq_aload_n (kk := 0) (q := 168) rfl rfl rfl ?_
  refine wq_bipush (n := 120) (q := 170) rfl rfl rfl ?_
  refine wq_newI (n := 120) (q := 172) k_ac_int rfl rfl (Nat.le_of_ble_eq_true rfl) rfl rfl (Nat.le_of_ble_eq_true rfl) (Nat.le_of_ble_eq_true rfl) (Nat.le_of_ble_eq_true rfl) ?_
  rw [hn1 _ (Nat.le_of_ble_eq_true rfl)]
  refine wq_putF (q := 175) f_Mo_72 rfl rfl rfl rfl rfl (Or.inr (Nat.le_of_ble_eq_true rfl)) (Or.inr (Nat.le_of_ble_eq_true rfl)) (fun e => Bool.noConfusion e) rfl rfl ?_
  refine wq_aload_n (kk := 0) (q := 176) rfl rfl rfl ?_
  refine wq_bipush (n := 10) (q := 178) rfl rfl rfl ?_
  refine wq_newI (n := 10) (q := 180) k_ac_int rfl rfl (Nat.le_of_ble_eq_true rfl) rfl rfl (Nat.le_of_ble_eq_true rfl) (Nat.le_of_ble_eq_true rfl) (Nat.le_of_ble_eq_true rfl) ?_
  rw [hn1 _ (Nat.le_of_ble_eq_true rfl)]
  refine wq_putF (q := 183) f_Mo_75 rfl rfl rfl rfl rfl (Or.inr (Nat.le_of_ble_eq_true rfl)) (Or.inr (Nat.le_of_ble_eq_true rfl)) (fun e => Bool.noConfusion e) rfl rfl ?_
  exact wq_vret rfl rfl (Nat.le_of_ble_eq_true rfl) (Nat.le_of_ble_eq_true rfl) ⟨rfl, rfl, rfl⟩
