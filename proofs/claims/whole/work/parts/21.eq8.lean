set_option maxRecDepth 100000 in
set_option maxHeartbeats 4000000 in
theorem e_L_worthOf (d : Nat) (l0 : Nat) (l1 : Int32) (l2 : Nat) (M : ir_M) : m_L_worthOf (d + 1) l0 l1 l2 M = ir_ck (ir_gk M l0 11) (ir_bI (m_X11_worthOf d l0 l1 M) (fun r2 M1 => ir_ck (ir_gw M1 l2 101 (0 : Int32)) (ir_lt (ir_sJ M1 l2 (0 : Int32).toNatClampNeg r2.toInt64) (fun M3 => ir_oI (0 : Int32) M3))) (fun e4 M5 => if e4 = 2 then ir_oI (1 : Int32) M5 else if e4 = 3 then ir_oI (2 : Int32) M5 else none)) := (ir_u1_eq 353 [] 12 d 0 [some (.ref l0), some (.int l1), some (.ref l2), none] [] M).trans rfl
set_option maxRecDepth 100000 in
set_option maxHeartbeats 4000000 in
theorem e_L_share (d : Nat) (l0 : Nat) (l1 : Int32) (l2 : Nat) (M : ir_M) : m_L_share (d + 1) l0 l1 l2 M = ir_ck (ir_gk M l0 11) (ir_bI (m_X11_share d l0 l1 M) (fun r2 M1 => ir_ck (ir_gw M1 l2 101 (0 : Int32)) (ir_lt (ir_sJ M1 l2 (0 : Int32).toNatClampNeg r2.toInt64) (fun M3 => ir_oI (0 : Int32) M3))) (fun e4 M5 => if e4 = 1 then ir_oI (1 : Int32) M5 else if e4 = 2 then ir_oI (2 : Int32) M5 else none)) := (ir_u1_eq 354 [] 12 d 0 [some (.ref l0), some (.int l1), some (.ref l2), none] [] M).trans rfl
set_option maxRecDepth 100000 in
set_option maxHeartbeats 4000000 in
theorem e_L_ruined (d : Nat) (l0 : Nat) (l1 : Int32) (l2 : Nat) (M : ir_M) : m_L_ruined (d + 1) l0 l1 l2 M = ir_ck (ir_gk M l0 11) (ir_bI (m_X11_ruined d l0 l1 M) (fun r2 M1 => ir_ck (ir_gw M1 l2 101 (0 : Int32)) (ir_lt (ir_sJ M1 l2 (0 : Int32).toNatClampNeg r2.toInt64) (fun M3 => ir_oI (0 : Int32) M3))) (fun e4 M5 => if e4 = 1 then ir_oI (1 : Int32) M5 else if e4 = 2 then ir_oI (2 : Int32) M5 else none)) := (ir_u1_eq 355 [] 12 d 0 [some (.ref l0), some (.int l1), some (.ref l2), none] [] M).trans rfl
set_option maxRecDepth 100000 in
set_option maxHeartbeats 4000000 in
theorem e_L_by (d : Nat) (l0 : Nat) (l1 : Int32) (l2 : Nat) (M : ir_M) : m_L_by (d + 1) l0 l1 l2 M = ir_ck (ir_gk M l0 11) (ir_bI (m_X11_by d l0 l1 M) (fun r2 M1 => ir_ck (ir_gw M1 l2 101 (0 : Int32)) (ir_lt (ir_sJ M1 l2 (0 : Int32).toNatClampNeg r2.toInt64) (fun M3 => ir_oI (0 : Int32) M3))) (fun e4 M5 => if e4 = 3 then ir_oI (1 : Int32) M5 else none)) := (ir_u1_eq 356 [] 12 d 0 [some (.ref l0), some (.int l1), some (.ref l2), none] [] M).trans rfl
set_option maxRecDepth 100000 in
set_option maxHeartbeats 4000000 in
theorem e_L_secrets (d : Nat) (l0 : Nat) (l1 : Int32) (l2 : Nat) (M : ir_M) : m_L_secrets (d + 1) l0 l1 l2 M = ir_ck (ir_gk M l0 11) (ir_bJ (m_X11_secrets d l0 l1 M) (fun r2 M1 => ir_ck (ir_gw M1 l2 101 (0 : Int32)) (ir_lt (ir_sJ M1 l2 (0 : Int32).toNatClampNeg r2) (fun M3 => ir_oI (0 : Int32) M3))) (fun e4 M5 => if e4 = 1 then ir_oI (1 : Int32) M5 else if e4 = 2 then ir_oI (2 : Int32) M5 else if e4 = 3 then ir_oI (3 : Int32) M5 else none)) := (ir_u1_eq 357 [] 11 d 0 [some (.ref l0), some (.int l1), some (.ref l2), none] [] M).trans rfl
set_option maxRecDepth 100000 in
set_option maxHeartbeats 4000000 in
theorem e_L_sure (d : Nat) (l0 : Nat) (l1 : Int32) (l2 : Int32) (l3 : Nat) (M : ir_M) : m_L_sure (d + 1) l0 l1 l2 l3 M = ir_ck (ir_gk M l0 11) (ir_bI (m_X11_sure d l0 l1 l2 M) (fun r2 M1 => ir_ck (ir_gw M1 l3 101 (0 : Int32)) (ir_lt (ir_sJ M1 l3 (0 : Int32).toNatClampNeg r2.toInt64) (fun M3 => ir_oI (0 : Int32) M3))) (fun e4 M5 => if e4 = 1 then ir_oI (1 : Int32) M5 else if e4 = 2 then ir_oI (2 : Int32) M5 else if e4 = 3 then ir_oI (3 : Int32) M5 else none)) := (ir_u1_eq 358 [] 13 d 0 [some (.ref l0), some (.int l1), some (.int l2), some (.ref l3), none] [] M).trans rfl
set_option maxRecDepth 100000 in
set_option maxHeartbeats 4000000 in
theorem e_L_tray (d : Nat) (l0 : Nat) (l1 : Int32) (l2 : Int32) (l3 : Int32) (M : ir_M) : m_L_tray (d + 1) l0 l1 l2 l3 M = ir_ck (ir_gk M l0 11) (ir_bV (m_X11_tray d l0 l1 l2 l3 M) (fun M1 => ir_oI (0 : Int32) M1) (fun e2 M3 => if e2 = 1 then ir_oI (1 : Int32) M3 else if e2 = 3 then ir_oI (2 : Int32) M3 else none)) := (ir_u1_eq 359 [] 10 d 0 [some (.ref l0), some (.int l1), some (.int l2), some (.int l3), none] [] M).trans rfl
set_option maxRecDepth 100000 in
set_option maxHeartbeats 4000000 in
theorem e_L_write (d : Nat) (l0 : Nat) (l1 : Int32) (l2 : Int32) (l3 : Int64) (l5 : Nat) (M : ir_M) : m_L_write (d + 1) l0 l1 l2 l3 l5 M = ir_ck (ir_gk M l0 11) (ir_bJ (m_X11_write d l0 l1 l2 l3 M) (fun r2 M1 => ir_ck (ir_gw M1 l5 101 (0 : Int32)) (ir_lt (ir_sJ M1 l5 (0 : Int32).toNatClampNeg r2) (fun M3 => ir_oI (0 : Int32) M3))) (fun e4 M5 => if e4 = 1 then ir_oI (1 : Int32) M5 else if e4 = 2 then ir_oI (2 : Int32) M5 else if e4 = 4 then ir_oI (3 : Int32) M5 else none)) := (ir_u1_eq 360 [] 13 d 0 [some (.ref l0), some (.int l1), some (.int l2), some (.long l3), none, some (.ref l5), none] [] M).trans rfl
set_option maxRecDepth 100000 in
set_option maxHeartbeats 4000000 in
theorem e_L_pour (d : Nat) (l0 : Nat) (l1 : Int32) (l2 : Nat) (M : ir_M) : m_L_pour (d + 1) l0 l1 l2 M = ir_ck (ir_gk M l0 11) (ir_bI (m_X11_pour d l0 l1 M) (fun r2 M1 => ir_ck (ir_gw M1 l2 101 (0 : Int32)) (ir_lt (ir_sJ M1 l2 (0 : Int32).toNatClampNeg r2.toInt64) (fun M3 => ir_oI (0 : Int32) M3))) (fun e4 M5 => if e4 = 1 then ir_oI (1 : Int32) M5 else if e4 = 2 then ir_oI (2 : Int32) M5 else none)) := (ir_u1_eq 361 [] 12 d 0 [some (.ref l0), some (.int l1), some (.ref l2), none] [] M).trans rfl
set_option maxRecDepth 100000 in
set_option maxHeartbeats 4000000 in
theorem e_L_image (d : Nat) (l0 : Nat) (l1 : Int32) (M : ir_M) : m_L_image (d + 1) l0 l1 M = ir_ck (ir_gk M l0 11) (ir_bV (m_X11_image d l0 l1 M) (fun M1 => ir_oI (0 : Int32) M1) (fun e2 M3 => if e2 = 1 then ir_oI (1 : Int32) M3 else none)) := (ir_u1_eq 362 [] 8 d 0 [some (.ref l0), some (.int l1), none] [] M).trans rfl
set_option maxRecDepth 100000 in
set_option maxHeartbeats 4000000 in
theorem e_L_restore (d : Nat) (l0 : Nat) (l1 : Int32) (M : ir_M) : m_L_restore (d + 1) l0 l1 M = ir_ck (ir_gk M l0 11) (ir_bV (m_X11_restore d l0 l1 M) (fun M1 => ir_oI (0 : Int32) M1) (fun e2 M3 => if e2 = 1 then ir_oI (1 : Int32) M3 else if e2 = 2 then ir_oI (2 : Int32) M3 else none)) := (ir_u1_eq 363 [] 8 d 0 [some (.ref l0), some (.int l1), none] [] M).trans rfl
set_option maxRecDepth 100000 in
set_option maxHeartbeats 4000000 in
theorem e_J6_bitCount_0f7a4 (d : Nat) (l0 : Int32) (M : ir_M) : m_J6_bitCount_0f7a4 (d + 1) l0 M = ir_oI ((((((((l0 - ((l0.toUInt32 >>> ((1 : Int32).toUInt32 &&& Int32.toUInt32 31)).toInt32 &&& (1431655765 : Int32))) &&& (858993459 : Int32)) + (((l0 - ((l0.toUInt32 >>> ((1 : Int32).toUInt32 &&& Int32.toUInt32 31)).toInt32 &&& (1431655765 : Int32))).toUInt32 >>> ((2 : Int32).toUInt32 &&& Int32.toUInt32 31)).toInt32 &&& (858993459 : Int32))) + ((((l0 - ((l0.toUInt32 >>> ((1 : Int32).toUInt32 &&& Int32.toUInt32 31)).toInt32 &&& (1431655765 : Int32))) &&& (858993459 : Int32)) + (((l0 - ((l0.toUInt32 >>> ((1 : Int32).toUInt32 &&& Int32.toUInt32 31)).toInt32 &&& (1431655765 : Int32))).toUInt32 >>> ((2 : Int32).toUInt32 &&& Int32.toUInt32 31)).toInt32 &&& (858993459 : Int32))).toUInt32 >>> ((4 : Int32).toUInt32 &&& Int32.toUInt32 31)).toInt32) &&& (252645135 : Int32)) + ((((((l0 - ((l0.toUInt32 >>> ((1 : Int32).toUInt32 &&& Int32.toUInt32 31)).toInt32 &&& (1431655765 : Int32))) &&& (858993459 : Int32)) + (((l0 - ((l0.toUInt32 >>> ((1 : Int32).toUInt32 &&& Int32.toUInt32 31)).toInt32 &&& (1431655765 : Int32))).toUInt32 >>> ((2 : Int32).toUInt32 &&& Int32.toUInt32 31)).toInt32 &&& (858993459 : Int32))) + ((((l0 - ((l0.toUInt32 >>> ((1 : Int32).toUInt32 &&& Int32.toUInt32 31)).toInt32 &&& (1431655765 : Int32))) &&& (858993459 : Int32)) + (((l0 - ((l0.toUInt32 >>> ((1 : Int32).toUInt32 &&& Int32.toUInt32 31)).toInt32 &&& (1431655765 : Int32))).toUInt32 >>> ((2 : Int32).toUInt32 &&& Int32.toUInt32 31)).toInt32 &&& (858993459 : Int32))).toUInt32 >>> ((4 : Int32).toUInt32 &&& Int32.toUInt32 31)).toInt32) &&& (252645135 : Int32)).toUInt32 >>> ((8 : Int32).toUInt32 &&& Int32.toUInt32 31)).toInt32) + (((((((l0 - ((l0.toUInt32 >>> ((1 : Int32).toUInt32 &&& Int32.toUInt32 31)).toInt32 &&& (1431655765 : Int32))) &&& (858993459 : Int32)) + (((l0 - ((l0.toUInt32 >>> ((1 : Int32).toUInt32 &&& Int32.toUInt32 31)).toInt32 &&& (1431655765 : Int32))).toUInt32 >>> ((2 : Int32).toUInt32 &&& Int32.toUInt32 31)).toInt32 &&& (858993459 : Int32))) + ((((l0 - ((l0.toUInt32 >>> ((1 : Int32).toUInt32 &&& Int32.toUInt32 31)).toInt32 &&& (1431655765 : Int32))) &&& (858993459 : Int32)) + (((l0 - ((l0.toUInt32 >>> ((1 : Int32).toUInt32 &&& Int32.toUInt32 31)).toInt32 &&& (1431655765 : Int32))).toUInt32 >>> ((2 : Int32).toUInt32 &&& Int32.toUInt32 31)).toInt32 &&& (858993459 : Int32))).toUInt32 >>> ((4 : Int32).toUInt32 &&& Int32.toUInt32 31)).toInt32) &&& (252645135 : Int32)) + ((((((l0 - ((l0.toUInt32 >>> ((1 : Int32).toUInt32 &&& Int32.toUInt32 31)).toInt32 &&& (1431655765 : Int32))) &&& (858993459 : Int32)) + (((l0 - ((l0.toUInt32 >>> ((1 : Int32).toUInt32 &&& Int32.toUInt32 31)).toInt32 &&& (1431655765 : Int32))).toUInt32 >>> ((2 : Int32).toUInt32 &&& Int32.toUInt32 31)).toInt32 &&& (858993459 : Int32))) + ((((l0 - ((l0.toUInt32 >>> ((1 : Int32).toUInt32 &&& Int32.toUInt32 31)).toInt32 &&& (1431655765 : Int32))) &&& (858993459 : Int32)) + (((l0 - ((l0.toUInt32 >>> ((1 : Int32).toUInt32 &&& Int32.toUInt32 31)).toInt32 &&& (1431655765 : Int32))).toUInt32 >>> ((2 : Int32).toUInt32 &&& Int32.toUInt32 31)).toInt32 &&& (858993459 : Int32))).toUInt32 >>> ((4 : Int32).toUInt32 &&& Int32.toUInt32 31)).toInt32) &&& (252645135 : Int32)).toUInt32 >>> ((8 : Int32).toUInt32 &&& Int32.toUInt32 31)).toInt32).toUInt32 >>> ((16 : Int32).toUInt32 &&& Int32.toUInt32 31)).toInt32) &&& (63 : Int32)) M := (ir_u1_eq 365 [] 44 d 0 [some (.int l0)] [] M).trans rfl
set_option maxRecDepth 100000 in
set_option maxHeartbeats 4000000 in
theorem e_J0_length_8abf5 (d : Nat) (l0 : Nat) (M : ir_M) : m_J0_length_8abf5 (d + 1) l0 M = ir_ck (ir_gp M l0 50 0) (ir_ck (ir_gl M (ir_P M l0 0)) (ir_ck (ir_gk M l0 50) (ir_cI (m_J0_coder_7d493 d l0 M) (fun r2 M1 => ir_oI ((Int32.ofNat (ir_ln M (ir_P M l0 0))) >>> (r2 &&& 31)) M1)))) := (ir_u1_eq 366 [] 9 d 0 [some (.ref l0)] [] M).trans rfl
set_option maxRecDepth 100000 in
set_option maxHeartbeats 4000000 in
theorem e_J0_charAt_5068e (d : Nat) (l0 : Nat) (l1 : Int32) (M : ir_M) : m_J0_charAt_5068e (d + 1) l0 l1 M = ir_ck (ir_gk M l0 50) (ir_cI (m_J0_isLatin1_aae02 d l0 M) (fun r2 M1 => if r2 = 0 then ir_ck (ir_gp M1 l0 50 0) (none) else ir_ck (ir_gp M1 l0 50 0) (ir_cI (m_J1_charAt_3b067 d (ir_P M1 l0 0) l1 M1) (fun r4 M3 => ir_ck (ir_nar 3 r4) (ir_oI r4 M3))))) := (ir_u1_eq 367 [] 10 d 0 [some (.ref l0), some (.int l1)] [] M).trans rfl
set_option maxRecDepth 100000 in
set_option maxHeartbeats 4000000 in
theorem e_J0_indexOf_0f7a4 (d : Nat) (l0 : Nat) (l1 : Int32) (M : ir_M) : m_J0_indexOf_0f7a4 (d + 1) l0 l1 M = ir_ck (ir_gk M l0 50) (ir_cI (m_J0_indexOf_7cf53 d l0 l1 (0 : Int32) M) (fun r2 M1 => ir_oI r2 M1)) := (ir_u1_eq 368 [] 7 d 0 [some (.ref l0), some (.int l1)] [] M).trans rfl
set_option maxRecDepth 100000 in
set_option maxHeartbeats 4000000 in
theorem e_J0_indexOf_7cf53 (d : Nat) (l0 : Nat) (l1 : Int32) (l2 : Int32) (M : ir_M) : m_J0_indexOf_7cf53 (d + 1) l0 l1 l2 M = ir_ck (ir_gk M l0 50) (ir_cI (m_J0_isLatin1_aae02 d l0 M) (fun r2 M1 => if r2 = 0 then ir_ck (ir_gp M1 l0 50 0) (ir_ck (ir_gk M1 l0 50) (ir_cI (m_J0_length_8abf5 d l0 M1) (fun r4 M3 => none))) else ir_ck (ir_gp M1 l0 50 0) (ir_ck (ir_gk M1 l0 50) (ir_cI (m_J0_length_8abf5 d l0 M1) (fun r6 M5 => ir_cI (m_J1_indexOf_4cfef d (ir_P M1 l0 0) l1 l2 r6 M5) (fun r8 M7 => ir_oI r8 M7)))))) := (ir_u1_eq 369 [] 14 d 0 [some (.ref l0), some (.int l1), some (.int l2)] [] M).trans rfl
set_option maxRecDepth 100000 in
set_option maxHeartbeats 4000000 in
theorem e_J0_toCharArray_70df3 (d : Nat) (l0 : Nat) (M : ir_M) : m_J0_toCharArray_70df3 (d + 1) l0 M = ir_ck (ir_gk M l0 50) (ir_cI (m_J0_isLatin1_aae02 d l0 M) (fun r2 M1 => if r2 = 0 then ir_ck (ir_gp M1 l0 50 0) (none) else ir_ck (ir_gp M1 l0 50 0) (ir_cP (m_J1_toChars_9d188 d (ir_P M1 l0 0) M1) (fun r4 M3 => ir_oP r4 M3)))) := (ir_u1_eq 370 [] 10 d 0 [some (.ref l0)] [] M).trans rfl
set_option maxRecDepth 100000 in
set_option maxHeartbeats 4000000 in
theorem e_J0_coder_7d493 (d : Nat) (l0 : Nat) (M : ir_M) : m_J0_coder_7d493 (d + 1) l0 M = if (1 : Int32) = 0 then ir_ck (ir_nar 2 (1 : Int32)) (ir_oI (1 : Int32) M) else ir_ck (ir_gk M l0 50) (ir_ck (ir_nar 2 (ir_I M l0 1)) (ir_oI (ir_I M l0 1) M)) := (ir_u1_eq 371 [] 8 d 0 [some (.ref l0)] [] M).trans rfl
set_option maxRecDepth 100000 in
set_option maxHeartbeats 4000000 in
theorem e_J0_isLatin1_aae02 (d : Nat) (l0 : Nat) (M : ir_M) : m_J0_isLatin1_aae02 (d + 1) l0 M = if (1 : Int32) = 0 then ir_ck (ir_nar 1 (0 : Int32)) (ir_oI (0 : Int32) M) else ir_ck (ir_gk M l0 50) (if (ir_I M l0 1) = 0 then ir_ck (ir_nar 1 (1 : Int32)) (ir_oI (1 : Int32) M) else ir_ck (ir_nar 1 (0 : Int32)) (ir_oI (0 : Int32) M)) := (ir_u1_eq 372 [] 10 d 0 [some (.ref l0)] [] M).trans rfl
set_option maxRecDepth 100000 in
set_option maxHeartbeats 4000000 in
theorem e_J0_checkIndex_df160 (d : Nat) (l0 : Int32) (l1 : Int32) (M : ir_M) : m_J0_checkIndex_df160 (d + 1) l0 l1 M = ir_cI (m_J3_checkIndex_8e157 d l0 l1 M) (fun r2 M1 => ir_oV M1) := (ir_u1_eq 373 [] 8 d 0 [some (.int l0), some (.int l1)] [] M).trans rfl
set_option maxRecDepth 100000 in
set_option maxHeartbeats 4000000 in
theorem e_J1_charAt_3b067 (d : Nat) (l0 : Nat) (l1 : Int32) (M : ir_M) : m_J1_charAt_3b067 (d + 1) l0 l1 M = ir_ck (ir_gl M l0) (ir_cV (m_J0_checkIndex_df160 d l1 (Int32.ofNat (ir_ln M l0)) M) (fun M1 => ir_ck (ir_ga M1 l0 102 l1 || ir_ga M1 l0 103 l1) (ir_ck (ir_nar 3 ((((ir_I M1 l0 l1.toNatClampNeg) &&& (255 : Int32)).toUInt32 % 65536).toInt32)) (ir_oI ((((ir_I M1 l0 l1.toNatClampNeg) &&& (255 : Int32)).toUInt32 % 65536).toInt32) M1)))) := (ir_u1_eq 374 [] 13 d 0 [some (.ref l0), some (.int l1)] [] M).trans rfl
set_option maxRecDepth 100000 in
set_option maxHeartbeats 4000000 in
theorem e_J1_canEncode_9a6ad (d : Nat) (l0 : Int32) (M : ir_M) : m_J1_canEncode_9a6ad (d + 1) l0 M = if l0 < 0 then ir_ck (ir_nar 1 (0 : Int32)) (ir_oI (0 : Int32) M) else if (255 : Int32) < l0 then ir_ck (ir_nar 1 (0 : Int32)) (ir_oI (0 : Int32) M) else ir_ck (ir_nar 1 (1 : Int32)) (ir_oI (1 : Int32) M) := (ir_u1_eq 375 [] 10 d 0 [some (.int l0)] [] M).trans rfl
set_option maxRecDepth 100000 in
set_option maxHeartbeats 4000000 in
theorem e_J1_toChars_9d188 (d : Nat) (l0 : Nat) (M : ir_M) : m_J1_toChars_9d188 (d + 1) l0 M = ir_ck (ir_gl M l0) (ir_ck (ir_gna M 104 (Int32.ofNat (ir_ln M l0))) (ir_lt (ir_al M (Int32.ofNat (ir_ln M l0)).toNatClampNeg) (fun M1 => ir_ck (ir_gl M1 l0) (ir_cV (m_J1_inflate_03870 d l0 (0 : Int32) (ir_nx M) (0 : Int32) (Int32.ofNat (ir_ln M1 l0)) M1) (fun M2 => ir_oP (ir_nx M) M2))))) := (ir_u1_eq 376 [] 15 d 0 [some (.ref l0), none] [] M).trans rfl
set_option maxRecDepth 100000 in
set_option maxHeartbeats 4000000 in
theorem e_J1_indexOf_4cfef (d : Nat) (l0 : Nat) (l1 : Int32) (l2 : Int32) (l3 : Int32) (M : ir_M) : m_J1_indexOf_4cfef (d + 1) l0 l1 l2 l3 M = ir_cI (m_J1_canEncode_9a6ad d l1 M) (fun r2 M1 => if r2 = 0 then ir_oI (-1 : Int32) M1 else ir_ck (ir_gl M1 l0) (if (ir_mx l2 (0 : Int32)) < (ir_mn l3 (Int32.ofNat (ir_ln M1 l0))) then ir_cI (m_J1_indexOfChar_4cfef d l0 l1 (ir_mx l2 (0 : Int32)) (ir_mn l3 (Int32.ofNat (ir_ln M1 l0))) M1) (fun r4 M3 => ir_oI r4 M3) else ir_oI (-1 : Int32) M1)) := (ir_u1_eq 377 [] 23 d 0 [some (.ref l0), some (.int l1), some (.int l2), some (.int l3)] [] M).trans rfl
set_option maxRecDepth 100000 in
set_option maxHeartbeats 4000000 in
theorem e_J1_indexOfChar_4cfef (d : Nat) (l0 : Nat) (l1 : Int32) (l2 : Int32) (l3 : Int32) (M : ir_M) : m_J1_indexOfChar_4cfef (d + 1) l0 l1 l2 l3 M = v_J1_indexOfChar_4cfef_7 d l0 l3 l1.toInt8.toInt32 l2 M := (ir_u1_eq 378 [7] 8 d 0 [some (.ref l0), some (.int l1), some (.int l2), some (.int l3), none, none] [] M).trans rfl
set_option maxRecDepth 100000 in
set_option maxHeartbeats 4000000 in
theorem l_J1_indexOfChar_4cfef_7 (d : Nat) (l0 : Nat) (l3 : Int32) (l4 : Int32) (l5 : Int32) (M : ir_M) : v_J1_indexOfChar_4cfef_7 d l0 l3 l4 l5 M = if l5 < l3 then ir_ck (ir_ga M l0 102 l5 || ir_ga M l0 103 l5) (if (ir_I M l0 l5.toNatClampNeg) = l4 then ir_oI l5 M else v_J1_indexOfChar_4cfef_7 d l0 l3 l4 (l5 + (1 : Int32)) M) else ir_oI (-1 : Int32) M := (ir_u1_eq 378 [7] 13 d 7 [some (.ref l0), none, none, some (.int l3), some (.int l4), some (.int l5)] [] M).trans rfl
set_option maxRecDepth 100000 in
set_option maxHeartbeats 4000000 in
theorem e_J1_inflate_03870 (d : Nat) (l0 : Nat) (l1 : Int32) (l2 : Nat) (l3 : Int32) (l4 : Int32) (M : ir_M) : m_J1_inflate_03870 (d + 1) l0 l1 l2 l3 l4 M = v_J1_inflate_03870_3 d l0 l1 l2 l3 l4 (0 : Int32) M := (ir_u1_eq 379 [3] 5 d 0 [some (.ref l0), some (.int l1), some (.ref l2), some (.int l3), some (.int l4), none] [] M).trans rfl
set_option maxRecDepth 100000 in
set_option maxHeartbeats 4000000 in
theorem l_J1_inflate_03870_3 (d : Nat) (l0 : Nat) (l1 : Int32) (l2 : Nat) (l3 : Int32) (l4 : Int32) (l5 : Int32) (M : ir_M) : v_J1_inflate_03870_3 d l0 l1 l2 l3 l4 l5 M = if l5 < l4 then ir_ck (ir_ga M l0 102 l1 || ir_ga M l0 103 l1) (ir_ck (ir_gw M l2 104 l3) (ir_lt (ir_sI M l2 l3.toNatClampNeg (vp_nar .char ((((ir_I M l0 l1.toNatClampNeg) &&& (255 : Int32)).toUInt32 % 65536).toInt32))) (fun M1 => v_J1_inflate_03870_3 d l0 (l1 + (1 : Int32)) l2 (l3 + (1 : Int32)) l4 (l5 + (1 : Int32)) M1))) else ir_oV M := (ir_u1_eq 379 [3] 19 d 3 [some (.ref l0), some (.int l1), some (.ref l2), some (.int l3), some (.int l4), some (.int l5)] [] M).trans rfl
set_option maxRecDepth 100000 in
set_option maxHeartbeats 4000000 in
theorem e_J7_fill_d0a16 (d : Nat) (l0 : Nat) (l1 : Int64) (M : ir_M) : m_J7_fill_d0a16 (d + 1) l0 l1 M = ir_ck (ir_gl M l0) (v_J7_fill_d0a16_6 d l0 l1 (0 : Int32) (Int32.ofNat (ir_ln M l0)) M) := (ir_u1_eq 380 [6] 8 d 0 [some (.ref l0), some (.long l1), none, none, none] [] M).trans rfl
set_option maxRecDepth 100000 in
set_option maxHeartbeats 4000000 in
theorem l_J7_fill_d0a16_6 (d : Nat) (l0 : Nat) (l1 : Int64) (l3 : Int32) (l4 : Int32) (M : ir_M) : v_J7_fill_d0a16_6 d l0 l1 l3 l4 M = if l3 < l4 then ir_ck (ir_gw M l0 101 l3) (ir_lt (ir_sJ M l0 l3.toNatClampNeg l1) (fun M1 => v_J7_fill_d0a16_6 d l0 l1 (l3 + (1 : Int32)) l4 M1)) else ir_oV M := (ir_u1_eq 380 [6] 12 d 6 [some (.ref l0), some (.long l1), none, some (.int l3), some (.int l4)] [] M).trans rfl
set_option maxRecDepth 100000 in
set_option maxHeartbeats 4000000 in
theorem e_J7_fill_53178 (d : Nat) (l0 : Nat) (l1 : Int32) (M : ir_M) : m_J7_fill_53178 (d + 1) l0 l1 M = ir_ck (ir_gl M l0) (v_J7_fill_53178_5 d l0 l1 (0 : Int32) (Int32.ofNat (ir_ln M l0)) M) := (ir_u1_eq 381 [5] 8 d 0 [some (.ref l0), some (.int l1), none, none] [] M).trans rfl
set_option maxRecDepth 100000 in
set_option maxHeartbeats 4000000 in
theorem l_J7_fill_53178_5 (d : Nat) (l0 : Nat) (l1 : Int32) (l2 : Int32) (l3 : Int32) (M : ir_M) : v_J7_fill_53178_5 d l0 l1 l2 l3 M = if l2 < l3 then ir_ck (ir_gw M l0 100 l2) (ir_lt (ir_sI M l0 l2.toNatClampNeg l1) (fun M1 => v_J7_fill_53178_5 d l0 l1 (l2 + (1 : Int32)) l3 M1)) else ir_oV M := (ir_u1_eq 381 [5] 12 d 5 [some (.ref l0), some (.int l1), some (.int l2), some (.int l3)] [] M).trans rfl
set_option maxRecDepth 100000 in
set_option maxHeartbeats 4000000 in
theorem e_J3_checkIndex_8e157 (d : Nat) (l0 : Int32) (l1 : Int32) (M : ir_M) : m_J3_checkIndex_8e157 (d + 1) l0 l1 M = if l0 < 0 then none else if l0 < l1 then ir_oI l0 M else none := (ir_u1_eq 382 [] 9 d 0 [some (.int l0), some (.int l1), some .null] [] M).trans rfl
