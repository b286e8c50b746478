def fL_18 (xs : Nat → Int32) (L n : Nat) : Nat → zM → Int32 → Int32 → Int32 → Option (Int32 × zM)
  | 0, _, _, _, _ => none
  | fu + 1, S, x1, x2, x3 => if ((nI L) - 6 : Int32) < (x3 : Int32) then (some (1, S)) else (zd (zsl L x3) <| if ((xs x3.toNatClampNeg) &&& 31 : Int32) = 0 then (zd (zsl L (x3 + 1)) <| zd (zsl L (x3 + 2)) <| zd (zsl L (x3 + 3)) <| zd (zo n 17 x1) <| zca (fX7_sheet n S x1 (xs (x3 + 1).toNatClampNeg) (xs (x3 + 2).toNatClampNeg) (xs (x3 + 3).toNatClampNeg)) fun r8 S9 => zd (zo n 18 x2) <| zca (fX8_sheet n S9 x2 (xs (x3 + 1).toNatClampNeg) (xs (x3 + 2).toNatClampNeg) (xs (x3 + 3).toNatClampNeg)) fun r12 S13 => if (r8 : Int32) = (r12 : Int32) then (zbd (x3 + 6) fun v16 => fL_18 xs L n fu S13 x1 x2 v16) else (some (0, S13))) else if ((xs x3.toNatClampNeg) &&& 31 : Int32) = 1 then (zd (zsl L (x3 + 1)) <| zd (zsl L (x3 + 2)) <| zd (zsl L (x3 + 3)) <| zd (zo n 17 x1) <| zca (fX7_set n S x1 (xs (x3 + 1).toNatClampNeg) (xs (x3 + 2).toNatClampNeg) (xs (x3 + 3).toNatClampNeg)) fun r23 S24 => zd (zo n 18 x2) <| zca (fX8_set n S24 x2 (xs (x3 + 1).toNatClampNeg) (xs (x3 + 2).toNatClampNeg) (xs (x3 + 3).toNatClampNeg)) fun r27 S28 => if (r23 : Int32) = (r27 : Int32) then (zbd (x3 + 6) fun v31 => fL_18 xs L n fu S28 x1 x2 v31) else (some (0, S28))) else if ((xs x3.toNatClampNeg) &&& 31 : Int32) = 2 then (zd (zsl L (x3 + 1)) <| zd (zsl L (x3 + 2)) <| zd (zsl L (x3 + 3)) <| zd (zsl L (x3 + 4)) <| zd (zsl L (x3 + 5)) <| zd (zo n 17 x1) <| zca (fX7_copy n S x1 (xs (x3 + 1).toNatClampNeg) (xs (x3 + 2).toNatClampNeg) (xs (x3 + 3).toNatClampNeg) (xs (x3 + 4).toNatClampNeg) (xs (x3 + 5).toNatClampNeg)) fun r40 S41 => zd (zo n 18 x2) <| zca (fX8_copy n S41 x2 (xs (x3 + 1).toNatClampNeg) (xs (x3 + 2).toNatClampNeg) (xs (x3 + 3).toNatClampNeg) (xs (x3 + 4).toNatClampNeg) (xs (x3 + 5).toNatClampNeg)) fun r44 S45 => if (r40 : Int32) = (r44 : Int32) then (zbd (x3 + 6) fun v48 => fL_18 xs L n fu S45 x1 x2 v48) else (some (0, S45))) else if ((xs x3.toNatClampNeg) &&& 31 : Int32) = 3 then (zd (zsl L (x3 + 1)) <| zd (zo n 17 x1) <| zca (fX7_drop n S x1 (xs (x3 + 1).toNatClampNeg)) fun r53 S54 => zd (zo n 18 x2) <| zca (fX8_drop n S54 x2 (xs (x3 + 1).toNatClampNeg)) fun r57 S58 => if (r53 : Int32) = (r57 : Int32) then (zbd (x3 + 6) fun v61 => fL_18 xs L n fu S58 x1 x2 v61) else (some (0, S58))) else if ((xs x3.toNatClampNeg) &&& 31 : Int32) = 4 then (zd (zsl L (x3 + 1)) <| zd (zsl L (x3 + 2)) <| zd (zsl L (x3 + 3)) <| zd (zo n 17 x1) <| zca (fX7_version n S x1 (xs (x3 + 1).toNatClampNeg) (xs (x3 + 2).toNatClampNeg) (xs (x3 + 3).toNatClampNeg)) fun r68 S69 => zd (zo n 18 x2) <| zca (fX8_version n S69 x2 (xs (x3 + 1).toNatClampNeg) (xs (x3 + 2).toNatClampNeg) (xs (x3 + 3).toNatClampNeg)) fun r72 S73 => if (r68 : Int32) = (r72 : Int32) then (zbd (x3 + 6) fun v76 => fL_18 xs L n fu S73 x1 x2 v76) else (some (0, S73))) else if ((xs x3.toNatClampNeg) &&& 31 : Int32) = 5 then (zd (zsl L (x3 + 1)) <| zd (zsl L (x3 + 2)) <| zd (zsl L (x3 + 3)) <| zd (zo n 17 x1) <| zca (fX7_step n S x1 (xs (x3 + 1).toNatClampNeg) (xs (x3 + 2).toNatClampNeg) (xs (x3 + 3).toNatClampNeg)) fun r83 S84 => zd (zo n 18 x2) <| zca (fX8_step n S84 x2 (xs (x3 + 1).toNatClampNeg) (xs (x3 + 2).toNatClampNeg) (xs (x3 + 3).toNatClampNeg)) fun r87 S88 => if (r83 : Int32) = (r87 : Int32) then (zbd (x3 + 6) fun v91 => fL_18 xs L n fu S88 x1 x2 v91) else (some (0, S88))) else if ((xs x3.toNatClampNeg) &&& 31 : Int32) = 6 then (zd (zsl L (x3 + 1)) <| zd (zsl L (x3 + 2)) <| zd (zsl L (x3 + 3)) <| zd (zo n 17 x1) <| zca (fX7_path n S x1 (xs (x3 + 1).toNatClampNeg) (xs (x3 + 2).toNatClampNeg) (xs (x3 + 3).toNatClampNeg)) fun r98 S99 => zd (zo n 18 x2) <| zca (fX8_path n S99 x2 (xs (x3 + 1).toNatClampNeg) (xs (x3 + 2).toNatClampNeg) (xs (x3 + 3).toNatClampNeg)) fun r102 S103 => if (r98 : Int32) = (r102 : Int32) then (zbd (x3 + 6) fun v106 => fL_18 xs L n fu S103 x1 x2 v106) else (some (0, S103))) else if ((xs x3.toNatClampNeg) &&& 31 : Int32) = 7 then (zd (zsl L (x3 + 1)) <| zd (zsl L (x3 + 2)) <| zd (zsl L (x3 + 3)) <| zd (zo n 17 x1) <| zca (fX7_on n S x1 (xs (x3 + 1).toNatClampNeg) (xs (x3 + 2).toNatClampNeg) (xs (x3 + 3).toNatClampNeg)) fun r113 S114 => zd (zo n 18 x2) <| zca (fX8_on n S114 x2 (xs (x3 + 1).toNatClampNeg) (xs (x3 + 2).toNatClampNeg) (xs (x3 + 3).toNatClampNeg)) fun r117 S118 => if (r113 : Int32) = (r117 : Int32) then (zbd (x3 + 6) fun v121 => fL_18 xs L n fu S118 x1 x2 v121) else (some (0, S118))) else if ((xs x3.toNatClampNeg) &&& 31 : Int32) = 8 then (zd (zsl L (x3 + 1)) <| zd (zsl L (x3 + 2)) <| zd (zsl L (x3 + 3)) <| zd (zo n 17 x1) <| zca (fX7_device n S x1 (xs (x3 + 1).toNatClampNeg) (xs (x3 + 2).toNatClampNeg) (xs (x3 + 3).toNatClampNeg)) fun r128 S129 => zd (zo n 18 x2) <| zca (fX8_device n S129 x2 (xs (x3 + 1).toNatClampNeg) (xs (x3 + 2).toNatClampNeg) (xs (x3 + 3).toNatClampNeg)) fun r132 S133 => if (r128 : Int32) = (r132 : Int32) then (zbd (x3 + 6) fun v136 => fL_18 xs L n fu S133 x1 x2 v136) else (some (0, S133))) else if ((xs x3.toNatClampNeg) &&& 31 : Int32) = 9 then (zd (zsl L (x3 + 1)) <| zd (zsl L (x3 + 2)) <| zd (zo n 17 x1) <| zca (fX7_told n S x1 (xs (x3 + 1).toNatClampNeg) (xs (x3 + 2).toNatClampNeg)) fun r142 S143 => zd (zo n 18 x2) <| zca (fX8_told n S143 x2 (xs (x3 + 1).toNatClampNeg) (xs (x3 + 2).toNatClampNeg)) fun r146 S147 => if (r142 : Int32) = (r146 : Int32) then (zbd (x3 + 6) fun v150 => fL_18 xs L n fu S147 x1 x2 v150) else (some (0, S147))) else if ((xs x3.toNatClampNeg) &&& 31 : Int32) = 10 then (zd (zsl L (x3 + 1)) <| zd (zsl L (x3 + 2)) <| zd (zo n 17 x1) <| zca (fX7_update n S x1 (xs (x3 + 1).toNatClampNeg) (xs (x3 + 2).toNatClampNeg)) fun r156 S157 => zd (zo n 18 x2) <| zca (fX8_update n S157 x2 (xs (x3 + 1).toNatClampNeg) (xs (x3 + 2).toNatClampNeg)) fun r160 S161 => if (r156 : Int32) = (r160 : Int32) then (zbd (x3 + 6) fun v164 => fL_18 xs L n fu S161 x1 x2 v164) else (some (0, S161))) else if ((xs x3.toNatClampNeg) &&& 31 : Int32) = 11 then (zd (zsl L (x3 + 1)) <| zd (zsl L (x3 + 2)) <| zd (zo n 17 x1) <| zca (fX7_acts n S x1 (xs (x3 + 1).toNatClampNeg) (xs (x3 + 2).toNatClampNeg)) fun r170 S171 => zd (zo n 18 x2) <| zca (fX8_acts n S171 x2 (xs (x3 + 1).toNatClampNeg) (xs (x3 + 2).toNatClampNeg)) fun r174 S175 => if (r170 : Int32) = (r174 : Int32) then (zbd (x3 + 6) fun v178 => fL_18 xs L n fu S175 x1 x2 v178) else (some (0, S175))) else if ((xs x3.toNatClampNeg) &&& 31 : Int32) = 12 then (zd (zsl L (x3 + 1)) <| zd (zsl L (x3 + 2)) <| zd (zsl L (x3 + 3)) <| zd (zo n 17 x1) <| zca (fX7_power n S x1 (xs (x3 + 1).toNatClampNeg) (xs (x3 + 2).toNatClampNeg) (xs (x3 + 3).toNatClampNeg)) fun r185 S186 => zd (zo n 18 x2) <| zca (fX8_power n S186 x2 (xs (x3 + 1).toNatClampNeg) (xs (x3 + 2).toNatClampNeg) (xs (x3 + 3).toNatClampNeg)) fun r189 S190 => if (r185 : Int32) = (r189 : Int32) then (zbd (x3 + 6) fun v193 => fL_18 xs L n fu S190 x1 x2 v193) else (some (0, S190))) else if ((xs x3.toNatClampNeg) &&& 31 : Int32) = 13 then (zd (zsl L (x3 + 1)) <| zd (zsl L (x3 + 2)) <| zd (zsl L (x3 + 3)) <| zd (zsl L (x3 + 4)) <| zd (zo n 17 x1) <| zca (fX7_cut n S x1 (xs (x3 + 1).toNatClampNeg) (xs (x3 + 2).toNatClampNeg) (xs (x3 + 3).toNatClampNeg) (xs (x3 + 4).toNatClampNeg)) fun r201 S202 => zd (zo n 18 x2) <| zca (fX8_cut n S202 x2 (xs (x3 + 1).toNatClampNeg) (xs (x3 + 2).toNatClampNeg) (xs (x3 + 3).toNatClampNeg) (xs (x3 + 4).toNatClampNeg)) fun r205 S206 => if (r201 : Int32) = (r205 : Int32) then (zbd (x3 + 6) fun v209 => fL_18 xs L n fu S206 x1 x2 v209) else (some (0, S206))) else if ((xs x3.toNatClampNeg) &&& 31 : Int32) = 14 then (zd (zsl L (x3 + 1)) <| zd (zo n 17 x1) <| zca (fX7_seed n S x1 (xs (x3 + 1).toNatClampNeg)) fun r214 S215 => zd (zo n 18 x2) <| zca (fX8_seed n S215 x2 (xs (x3 + 1).toNatClampNeg)) fun r218 S219 => if (r214 : Int32) = (r218 : Int32) then (zbd (x3 + 6) fun v222 => fL_18 xs L n fu S219 x1 x2 v222) else (some (0, S219))) else if ((xs x3.toNatClampNeg) &&& 31 : Int32) = 15 then (zd (zsl L (x3 + 1)) <| zd (zsl L (x3 + 2)) <| zd (zsl L (x3 + 3)) <| zd (zsl L (x3 + 4)) <| zd (zsl L (x3 + 5)) <| zd (zo n 17 x1) <| zca (fX7_campaign n S x1 (xs (x3 + 1).toNatClampNeg) (xs (x3 + 2).toNatClampNeg) (xs (x3 + 3).toNatClampNeg) (xs (x3 + 4).toNatClampNeg) (xs (x3 + 5).toNatClampNeg)) fun r231 S232 => zd (zo n 18 x2) <| zca (fX8_campaign n S232 x2 (xs (x3 + 1).toNatClampNeg) (xs (x3 + 2).toNatClampNeg) (xs (x3 + 3).toNatClampNeg) (xs (x3 + 4).toNatClampNeg) (xs (x3 + 5).toNatClampNeg)) fun r235 S236 => if (r231 : Int32) = (r235 : Int32) then (zbd (x3 + 6) fun v239 => fL_18 xs L n fu S236 x1 x2 v239) else (some (0, S236))) else if ((xs x3.toNatClampNeg) &&& 31 : Int32) = 16 then (zd (zsl L (x3 + 1)) <| zd (zo n 17 x1) <| zca (fX7_tick n S x1 (xs (x3 + 1).toNatClampNeg)) fun r244 S245 => zd (zo n 18 x2) <| zca (fX8_tick n S245 x2 (xs (x3 + 1).toNatClampNeg)) fun r248 S249 => if (r244 : Int32) = (r248 : Int32) then (zbd (x3 + 6) fun v252 => fL_18 xs L n fu S249 x1 x2 v252) else (some (0, S249))) else if ((xs x3.toNatClampNeg) &&& 31 : Int32) = 17 then (zd (zsl L (x3 + 1)) <| zd (zo n 17 x1) <| zca (fX7_runs n S x1 (xs (x3 + 1).toNatClampNeg)) fun r257 S258 => zd (zo n 18 x2) <| zca (fX8_runs n S258 x2 (xs (x3 + 1).toNatClampNeg)) fun r261 S262 => if (r257 : Int32) = (r261 : Int32) then (zbd (x3 + 6) fun v265 => fL_18 xs L n fu S262 x1 x2 v265) else (some (0, S262))) else if ((xs x3.toNatClampNeg) &&& 31 : Int32) = 18 then (zd (zsl L (x3 + 1)) <| zd (zsl L (x3 + 2)) <| zd (zsl L (x3 + 3)) <| zd (zo n 17 x1) <| zca (fX7_chance n S x1 (xs (x3 + 1).toNatClampNeg) (xs (x3 + 2).toNatClampNeg) (xs (x3 + 3).toNatClampNeg)) fun r272 S273 => zd (zo n 18 x2) <| zca (fX8_chance n S273 x2 (xs (x3 + 1).toNatClampNeg) (xs (x3 + 2).toNatClampNeg) (xs (x3 + 3).toNatClampNeg)) fun r276 S277 => if (lg_cmp r272 r276 : Int32) = 0 then (zbd (x3 + 6) fun v280 => fL_18 xs L n fu S277 x1 x2 v280) else (some (0, S277))) else if ((xs x3.toNatClampNeg) &&& 31 : Int32) = 19 then (zd (zsl L (x3 + 1)) <| zd (zo n 17 x1) <| zca (fX7_kind n S x1 (xs (x3 + 1).toNatClampNeg)) fun r285 S286 => zd (zo n 18 x2) <| zca (fX8_kind n S286 x2 (xs (x3 + 1).toNatClampNeg)) fun r289 S290 => if (r285 : Int32) = (r289 : Int32) then (zbd (x3 + 6) fun v293 => fL_18 xs L n fu S290 x1 x2 v293) else (some (0, S290))) else if ((xs x3.toNatClampNeg) &&& 31 : Int32) = 20 then (zd (zsl L (x3 + 1)) <| zd (zsl L (x3 + 2)) <| zd (zo n 17 x1) <| zca (fX7_as n S x1 (xs (x3 + 1).toNatClampNeg) (xs (x3 + 2).toNatClampNeg)) fun r299 S300 => zd (zo n 18 x2) <| zca (fX8_as n S300 x2 (xs (x3 + 1).toNatClampNeg) (xs (x3 + 2).toNatClampNeg)) fun r303 S304 => if (r299 : Int32) = (r303 : Int32) then (zbd (x3 + 6) fun v307 => fL_18 xs L n fu S304 x1 x2 v307) else (some (0, S304))) else if ((xs x3.toNatClampNeg) &&& 31 : Int32) = 21 then (zd (zsl L (x3 + 1)) <| zd (zsl L (x3 + 2)) <| zd (zo n 17 x1) <| zca (fX7_ask n S x1 (xs (x3 + 1).toNatClampNeg) (xs (x3 + 2).toNatClampNeg)) fun r313 S314 => zd (zo n 18 x2) <| zca (fX8_ask n S314 x2 (xs (x3 + 1).toNatClampNeg) (xs (x3 + 2).toNatClampNeg)) fun r317 S318 => if (r313 : Int32) = (r317 : Int32) then (zbd (x3 + 6) fun v321 => fL_18 xs L n fu S318 x1 x2 v321) else (some (0, S318))) else if ((xs x3.toNatClampNeg) &&& 31 : Int32) = 22 then (zd (zsl L (x3 + 1)) <| zd (zo n 17 x1) <| zca (fX7_trace n S x1 (xs (x3 + 1).toNatClampNeg)) fun r326 S327 => zd (zo n 18 x2) <| zca (fX8_trace n S327 x2 (xs (x3 + 1).toNatClampNeg)) fun r330 S331 => if (r326 : Int32) = (r330 : Int32) then (zbd (x3 + 6) fun v334 => fL_18 xs L n fu S331 x1 x2 v334) else (some (0, S331))) else if ((xs x3.toNatClampNeg) &&& 31 : Int32) = 23 then (zd (zsl L (x3 + 1)) <| zd (zo n 17 x1) <| zca (fX7_count n S x1 (xs (x3 + 1).toNatClampNeg)) fun r339 S340 => zd (zo n 18 x2) <| zca (fX8_count n S340 x2 (xs (x3 + 1).toNatClampNeg)) fun r343 S344 => if (r339 : Int32) = (r343 : Int32) then (zbd (x3 + 6) fun v347 => fL_18 xs L n fu S344 x1 x2 v347) else (some (0, S344))) else if ((xs x3.toNatClampNeg) &&& 31 : Int32) = 24 then (zd (zo n 17 x1) <| zca (fX7_status n S x1) fun r351 S352 => zd (zo n 18 x2) <| zca (fX8_status n S352 x2) fun r355 S356 => if (r351 : Int32) = (r355 : Int32) then (zbd (x3 + 6) fun v359 => fL_18 xs L n fu S356 x1 x2 v359) else (some (0, S356))) else (zbd (x3 + 6) fun v361 => fL_18 xs L n fu S x1 x2 v361))
theorem bL_18 {p : Program} {l : Launch} {e : Env} {s : State} {m : MethodId} {below : List Frame} {meth : Method} {c : Code} {D : va_G} {tc : Nat → ClassId} {b b0 L n : Nat} {xs : Nat → Int32} {S' : zM} {cells slots : Nat} (C : zC p m c code 4 s #[Value.ref b0] R_law D tc) (hr : meth.sig.returnType = ret) (hk : meth.locks = false) (hb : b = s.heap.size) (hX : va_X b0 L xs s s.heap) (hbl : b0 < b) (hcs : cells ≤ room_1.cells ∧ slots ≤ room_1.slots) : ∀ (fu : Nat) (S : zM) (x1 : Int32) (x2 : Int32) (x3 : Int32) (H : Heap) (locs : List Loc) (ls : Array Slot), fL_18 xs L n fu S x1 x2 x3 = some (1, S') → zI D tc b n S s H locs → zL b ls 4 [(0, zs b0), (1, zr x1), (2, zr x2), (3, zi x3)] → W p l e room_1 s m #[Value.ref b0] below meth c H locs cells slots (lw_Z below #[Value.ref b0] s) (zG b m 18 ls []) := by
  intro fu
  induction fu with
  | zero => intro S x1 x2 x3 H locs ls h _ _; rw [fL_18] at h; cases h
  | succ fu ih =>
    intro S x1 x2 x3 H locs ls h I hl
    rw [fL_18] at h
    refine z_iload_n C hl 3 rfl dL_law_18 rfl ?_
    refine z_aload_s C hl 0 rfl dL_law_19 rfl ?_
    refine z_slen C hX hbl hb I dL_law_20 ?_
    refine z_bipush C (v := 6) dL_law_21 (by decide) ?_
    refine z_isub C dL_law_23 ?_
    refine z_icmp_gt C 1060 dL_law_24 (by decide) (fun c1 => ?_) (fun c1 => ?_)
    · have h := zit c1 h
      refine z_iconst C (v := 1) dL_law_1060 (by decide) ?_
      exact z_lawret C I hb hr hk hcs dL_law_1061
    · have h := zif c1 h
      refine z_aload_s C hl 0 rfl dL_law_27 rfl ?_
      refine z_iload_n C hl 3 rfl dL_law_28 rfl ?_
      obtain ⟨g2, h⟩ := zd_some h
      refine z_sld C hX hbl hb I g2 dL_law_29 ?_
      refine z_bipush C (v := 31) dL_law_30 (by decide) ?_
      refine z_iand C dL_law_32 ?_
      by_cases c3 : ((xs x3.toNatClampNeg) &&& 31 : Int32) = 0
      · have h := zit c3 h
        refine z_tsIn C (off := 115) 148 c3 dL_law_33 (by decide) (by decide) (by decide) (by decide) ?_
        refine z_aload_n C hl 1 rfl dL_law_148 rfl ?_
        refine z_aload_s C hl 0 rfl dL_law_149 rfl ?_
        refine z_iload_n C hl 3 rfl dL_law_150 rfl ?_
        refine z_iconst C (v := 1) dL_law_151 (by decide) ?_
        refine z_iadd C dL_law_152 ?_
        obtain ⟨g4, h⟩ := zd_some h
        refine z_sld C hX hbl hb I g4 dL_law_153 ?_
        refine z_aload_s C hl 0 rfl dL_law_154 rfl ?_
        refine z_iload_n C hl 3 rfl dL_law_155 rfl ?_
        refine z_iconst C (v := 2) dL_law_156 (by decide) ?_
        refine z_iadd C dL_law_157 ?_
        obtain ⟨g5, h⟩ := zd_some h
        refine z_sld C hX hbl hb I g5 dL_law_158 ?_
        refine z_aload_s C hl 0 rfl dL_law_159 rfl ?_
        refine z_iload_n C hl 3 rfl dL_law_160 rfl ?_
        refine z_iconst C (v := 3) dL_law_161 (by decide) ?_
        refine z_iadd C dL_law_162 ?_
        obtain ⟨g6, h⟩ := zd_some h
        refine z_sld C hX hbl hb I g6 dL_law_163 ?_
        obtain ⟨g7, h⟩ := zd_some h
        obtain ⟨r8, S9, h10, h⟩ := zcs h
        refine z_callVi C I (tX7_sheet _ D tc b _ h10) zyX7_sheet zyvX7_sheet zc7 g7 zq_262 (st := []) rfl rfl (by decide) hcs hl.1 (Nat.le_of_ble_eq_true rfl) dL_law_164 (fun H locs I => ?_)
        refine z_aload_n C hl 2 rfl dL_law_167 rfl ?_
        refine z_aload_s C hl 0 rfl dL_law_168 rfl ?_
        refine z_iload_n C hl 3 rfl dL_law_169 rfl ?_
        refine z_iconst C (v := 1) dL_law_170 (by decide) ?_
        refine z_iadd C dL_law_171 ?_
        refine z_sld C hX hbl hb I g4 dL_law_172 ?_
        refine z_aload_s C hl 0 rfl dL_law_173 rfl ?_
        refine z_iload_n C hl 3 rfl dL_law_174 rfl ?_
        refine z_iconst C (v := 2) dL_law_175 (by decide) ?_
        refine z_iadd C dL_law_176 ?_
        refine z_sld C hX hbl hb I g5 dL_law_177 ?_
        refine z_aload_s C hl 0 rfl dL_law_178 rfl ?_
        refine z_iload_n C hl 3 rfl dL_law_179 rfl ?_
        refine z_iconst C (v := 3) dL_law_180 (by decide) ?_
        refine z_iadd C dL_law_181 ?_
        refine z_sld C hX hbl hb I g6 dL_law_182 ?_
        obtain ⟨g11, h⟩ := zd_some h
        obtain ⟨r12, S13, h14, h⟩ := zcs h
        refine z_callVi C I (tX8_sheet _ D tc b _ h14) zyX8_sheet zyvX8_sheet zc8 g11 zq_771 (st := [zi r8]) rfl rfl (by decide) hcs hl.1 (Nat.le_of_ble_eq_true rfl) dL_law_183 (fun H locs I => ?_)
        refine z_icmp_eq C 1054 dL_law_186 (by decide) (fun c15 => ?_) (fun c15 => ?_)
        · have h := zit c15 h
          refine z_iinc C hl 3 (v := x3 + 6) rfl dL_law_1054 rfl (by decide) (fun v16 => [(3, zi v16), (0, zs b0), (1, zr x1), (2, zr x2)]) (fun _ => rfl) (fun v16 e17 ls hl => ?_)
          have h := znb e17 h
          refine z_goto C 18 dL_law_1057 (by decide) ?_
          exact ih _ _ _ _ _ _ _ h I (zL_sub hl [1, 2, 3, 0] rfl)
        · have h := zif c15 h
          refine z_iconst C (v := 0) dL_law_189 (by decide) ?_
          exact (z_01 h).elim
      have h := zif c3 h
      by_cases c18 : ((xs x3.toNatClampNeg) &&& 31 : Int32) = 1
      · have h := zit c18 h
        refine z_tsIn C (off := 158) 191 c18 dL_law_33 (by decide) (by decide) (by decide) (by decide) ?_
        refine z_aload_n C hl 1 rfl dL_law_191 rfl ?_
        refine z_aload_s C hl 0 rfl dL_law_192 rfl ?_
        refine z_iload_n C hl 3 rfl dL_law_193 rfl ?_
        refine z_iconst C (v := 1) dL_law_194 (by decide) ?_
        refine z_iadd C dL_law_195 ?_
        obtain ⟨g19, h⟩ := zd_some h
        refine z_sld C hX hbl hb I g19 dL_law_196 ?_
        refine z_aload_s C hl 0 rfl dL_law_197 rfl ?_
        refine z_iload_n C hl 3 rfl dL_law_198 rfl ?_
        refine z_iconst C (v := 2) dL_law_199 (by decide) ?_
        refine z_iadd C dL_law_200 ?_
        obtain ⟨g20, h⟩ := zd_some h
        refine z_sld C hX hbl hb I g20 dL_law_201 ?_
        refine z_aload_s C hl 0 rfl dL_law_202 rfl ?_
        refine z_iload_n C hl 3 rfl dL_law_203 rfl ?_
        refine z_iconst C (v := 3) dL_law_204 (by decide) ?_
        refine z_iadd C dL_law_205 ?_
        obtain ⟨g21, h⟩ := zd_some h
        refine z_sld C hX hbl hb I g21 dL_law_206 ?_
        obtain ⟨g22, h⟩ := zd_some h
        obtain ⟨r23, S24, h25, h⟩ := zcs h
        refine z_callVi C I (tX7_set _ D tc b _ h25) zyX7_set zyvX7_set zc7 g22 zq_283 (st := []) rfl rfl (by decide) hcs hl.1 (Nat.le_of_ble_eq_true rfl) dL_law_207 (fun H locs I => ?_)
        refine z_aload_n C hl 2 rfl dL_law_210 rfl ?_
        refine z_aload_s C hl 0 rfl dL_law_211 rfl ?_
        refine z_iload_n C hl 3 rfl dL_law_212 rfl ?_
        refine z_iconst C (v := 1) dL_law_213 (by decide) ?_
        refine z_iadd C dL_law_214 ?_
        refine z_sld C hX hbl hb I g19 dL_law_215 ?_
        refine z_aload_s C hl 0 rfl dL_law_216 rfl ?_
        refine z_iload_n C hl 3 rfl dL_law_217 rfl ?_
        refine z_iconst C (v := 2) dL_law_218 (by decide) ?_
        refine z_iadd C dL_law_219 ?_
        refine z_sld C hX hbl hb I g20 dL_law_220 ?_
        refine z_aload_s C hl 0 rfl dL_law_221 rfl ?_
        refine z_iload_n C hl 3 rfl dL_law_222 rfl ?_
        refine z_iconst C (v := 3) dL_law_223 (by decide) ?_
        refine z_iadd C dL_law_224 ?_
        refine z_sld C hX hbl hb I g21 dL_law_225 ?_
        obtain ⟨g26, h⟩ := zd_some h
        obtain ⟨r27, S28, h29, h⟩ := zcs h
        refine z_callVi C I (tX8_set _ D tc b _ h29) zyX8_set zyvX8_set zc8 g26 zq_789 (st := [zi r23]) rfl rfl (by decide) hcs hl.1 (Nat.le_of_ble_eq_true rfl) dL_law_226 (fun H locs I => ?_)
        refine z_icmp_eq C 1054 dL_law_229 (by decide) (fun c30 => ?_) (fun c30 => ?_)
        · have h := zit c30 h
          refine z_iinc C hl 3 (v := x3 + 6) rfl dL_law_1054 rfl (by decide) (fun v31 => [(3, zi v31), (0, zs b0), (1, zr x1), (2, zr x2)]) (fun _ => rfl) (fun v31 e32 ls hl => ?_)
          have h := znb e32 h
          refine z_goto C 18 dL_law_1057 (by decide) ?_
          exact ih _ _ _ _ _ _ _ h I (zL_sub hl [1, 2, 3, 0] rfl)
        · have h := zif c30 h
          refine z_iconst C (v := 0) dL_law_232 (by decide) ?_
          exact (z_01 h).elim
      have h := zif c18 h
      by_cases c33 : ((xs x3.toNatClampNeg) &&& 31 : Int32) = 2
      · have h := zit c33 h
        refine z_tsIn C (off := 201) 234 c33 dL_law_33 (by decide) (by decide) (by decide) (by decide) ?_
        refine z_aload_n C hl 1 rfl dL_law_234 rfl ?_
        refine z_aload_s C hl 0 rfl dL_law_235 rfl ?_
        refine z_iload_n C hl 3 rfl dL_law_236 rfl ?_
        refine z_iconst C (v := 1) dL_law_237 (by decide) ?_
        refine z_iadd C dL_law_238 ?_
        obtain ⟨g34, h⟩ := zd_some h
        refine z_sld C hX hbl hb I g34 dL_law_239 ?_
        refine z_aload_s C hl 0 rfl dL_law_240 rfl ?_
        refine z_iload_n C hl 3 rfl dL_law_241 rfl ?_
        refine z_iconst C (v := 2) dL_law_242 (by decide) ?_
        refine z_iadd C dL_law_243 ?_
        obtain ⟨g35, h⟩ := zd_some h
        refine z_sld C hX hbl hb I g35 dL_law_244 ?_
        refine z_aload_s C hl 0 rfl dL_law_245 rfl ?_
        refine z_iload_n C hl 3 rfl dL_law_246 rfl ?_
        refine z_iconst C (v := 3) dL_law_247 (by decide) ?_
        refine z_iadd C dL_law_248 ?_
        obtain ⟨g36, h⟩ := zd_some h
        refine z_sld C hX hbl hb I g36 dL_law_249 ?_
        refine z_aload_s C hl 0 rfl dL_law_250 rfl ?_
        refine z_iload_n C hl 3 rfl dL_law_251 rfl ?_
        refine z_iconst C (v := 4) dL_law_252 (by decide) ?_
        refine z_iadd C dL_law_253 ?_
        obtain ⟨g37, h⟩ := zd_some h
        refine z_sld C hX hbl hb I g37 dL_law_254 ?_
        refine z_aload_s C hl 0 rfl dL_law_255 rfl ?_
        refine z_iload_n C hl 3 rfl dL_law_256 rfl ?_
        refine z_iconst C (v := 5) dL_law_257 (by decide) ?_
        refine z_iadd C dL_law_258 ?_
        obtain ⟨g38, h⟩ := zd_some h
        refine z_sld C hX hbl hb I g38 dL_law_259 ?_
        obtain ⟨g39, h⟩ := zd_some h
        obtain ⟨r40, S41, h42, h⟩ := zcs h
        refine z_callVi C I (tX7_copy _ D tc b _ h42) zyX7_copy zyvX7_copy zc7 g39 zq_295 (st := []) rfl rfl (by decide) hcs hl.1 (Nat.le_of_ble_eq_true rfl) dL_law_260 (fun H locs I => ?_)
        refine z_aload_n C hl 2 rfl dL_law_263 rfl ?_
        refine z_aload_s C hl 0 rfl dL_law_264 rfl ?_
        refine z_iload_n C hl 3 rfl dL_law_265 rfl ?_
        refine z_iconst C (v := 1) dL_law_266 (by decide) ?_
        refine z_iadd C dL_law_267 ?_
        refine z_sld C hX hbl hb I g34 dL_law_268 ?_
        refine z_aload_s C hl 0 rfl dL_law_269 rfl ?_
        refine z_iload_n C hl 3 rfl dL_law_270 rfl ?_
        refine z_iconst C (v := 2) dL_law_271 (by decide) ?_
        refine z_iadd C dL_law_272 ?_
        refine z_sld C hX hbl hb I g35 dL_law_273 ?_
        refine z_aload_s C hl 0 rfl dL_law_274 rfl ?_
        refine z_iload_n C hl 3 rfl dL_law_275 rfl ?_
        refine z_iconst C (v := 3) dL_law_276 (by decide) ?_
        refine z_iadd C dL_law_277 ?_
        refine z_sld C hX hbl hb I g36 dL_law_278 ?_
        refine z_aload_s C hl 0 rfl dL_law_279 rfl ?_
        refine z_iload_n C hl 3 rfl dL_law_280 rfl ?_
        refine z_iconst C (v := 4) dL_law_281 (by decide) ?_
        refine z_iadd C dL_law_282 ?_
        refine z_sld C hX hbl hb I g37 dL_law_283 ?_
        refine z_aload_s C hl 0 rfl dL_law_284 rfl ?_
        refine z_iload_n C hl 3 rfl dL_law_285 rfl ?_
        refine z_iconst C (v := 5) dL_law_286 (by decide) ?_
        refine z_iadd C dL_law_287 ?_
        refine z_sld C hX hbl hb I g38 dL_law_288 ?_
        obtain ⟨g43, h⟩ := zd_some h
        obtain ⟨r44, S45, h46, h⟩ := zcs h
        refine z_callVi C I (tX8_copy _ D tc b _ h46) zyX8_copy zyvX8_copy zc8 g43 zq_793 (st := [zi r40]) rfl rfl (by decide) hcs hl.1 (Nat.le_of_ble_eq_true rfl) dL_law_289 (fun H locs I => ?_)
        refine z_icmp_eq C 1054 dL_law_292 (by decide) (fun c47 => ?_) (fun c47 => ?_)
        · have h := zit c47 h
          refine z_iinc C hl 3 (v := x3 + 6) rfl dL_law_1054 rfl (by decide) (fun v48 => [(3, zi v48), (0, zs b0), (1, zr x1), (2, zr x2)]) (fun _ => rfl) (fun v48 e49 ls hl => ?_)
          have h := znb e49 h
          refine z_goto C 18 dL_law_1057 (by decide) ?_
          exact ih _ _ _ _ _ _ _ h I (zL_sub hl [1, 2, 3, 0] rfl)
        · have h := zif c47 h
          refine z_iconst C (v := 0) dL_law_295 (by decide) ?_
          exact (z_01 h).elim
      have h := zif c33 h
      by_cases c50 : ((xs x3.toNatClampNeg) &&& 31 : Int32) = 3
      · have h := zit c50 h
        refine z_tsIn C (off := 264) 297 c50 dL_law_33 (by decide) (by decide) (by decide) (by decide) ?_
        refine z_aload_n C hl 1 rfl dL_law_297 rfl ?_
        refine z_aload_s C hl 0 rfl dL_law_298 rfl ?_
        refine z_iload_n C hl 3 rfl dL_law_299 rfl ?_
        refine z_iconst C (v := 1) dL_law_300 (by decide) ?_
        refine z_iadd C dL_law_301 ?_
        obtain ⟨g51, h⟩ := zd_some h
        refine z_sld C hX hbl hb I g51 dL_law_302 ?_
        obtain ⟨g52, h⟩ := zd_some h
        obtain ⟨r53, S54, h55, h⟩ := zcs h
        refine z_callVi C I (tX7_drop _ D tc b _ h55) zyX7_drop zyvX7_drop zc7 g52 zq_302 (st := []) rfl rfl (by decide) hcs hl.1 (Nat.le_of_ble_eq_true rfl) dL_law_303 (fun H locs I => ?_)
        refine z_aload_n C hl 2 rfl dL_law_306 rfl ?_
        refine z_aload_s C hl 0 rfl dL_law_307 rfl ?_
        refine z_iload_n C hl 3 rfl dL_law_308 rfl ?_
        refine z_iconst C (v := 1) dL_law_309 (by decide) ?_
        refine z_iadd C dL_law_310 ?_
        refine z_sld C hX hbl hb I g51 dL_law_311 ?_
        obtain ⟨g56, h⟩ := zd_some h
        obtain ⟨r57, S58, h59, h⟩ := zcs h
        refine z_callVi C I (tX8_drop _ D tc b _ h59) zyX8_drop zyvX8_drop zc8 g56 zq_797 (st := [zi r53]) rfl rfl (by decide) hcs hl.1 (Nat.le_of_ble_eq_true rfl) dL_law_312 (fun H locs I => ?_)
        refine z_icmp_eq C 1054 dL_law_315 (by decide) (fun c60 => ?_) (fun c60 => ?_)
        · have h := zit c60 h
          refine z_iinc C hl 3 (v := x3 + 6) rfl dL_law_1054 rfl (by decide) (fun v61 => [(3, zi v61), (0, zs b0), (1, zr x1), (2, zr x2)]) (fun _ => rfl) (fun v61 e62 ls hl => ?_)
          have h := znb e62 h
          refine z_goto C 18 dL_law_1057 (by decide) ?_
          exact ih _ _ _ _ _ _ _ h I (zL_sub hl [1, 2, 3, 0] rfl)
        · have h := zif c60 h
          refine z_iconst C (v := 0) dL_law_318 (by decide) ?_
          exact (z_01 h).elim
      have h := zif c50 h
      by_cases c63 : ((xs x3.toNatClampNeg) &&& 31 : Int32) = 4
      · have h := zit c63 h
        refine z_tsIn C (off := 287) 320 c63 dL_law_33 (by decide) (by decide) (by decide) (by decide) ?_
        refine z_aload_n C hl 1 rfl dL_law_320 rfl ?_
        refine z_aload_s C hl 0 rfl dL_law_321 rfl ?_
        refine z_iload_n C hl 3 rfl dL_law_322 rfl ?_
        refine z_iconst C (v := 1) dL_law_323 (by decide) ?_
        refine z_iadd C dL_law_324 ?_
        obtain ⟨g64, h⟩ := zd_some h
        refine z_sld C hX hbl hb I g64 dL_law_325 ?_
        refine z_aload_s C hl 0 rfl dL_law_326 rfl ?_
        refine z_iload_n C hl 3 rfl dL_law_327 rfl ?_
        refine z_iconst C (v := 2) dL_law_328 (by decide) ?_
        refine z_iadd C dL_law_329 ?_
        obtain ⟨g65, h⟩ := zd_some h
        refine z_sld C hX hbl hb I g65 dL_law_330 ?_
        refine z_aload_s C hl 0 rfl dL_law_331 rfl ?_
        refine z_iload_n C hl 3 rfl dL_law_332 rfl ?_
        refine z_iconst C (v := 3) dL_law_333 (by decide) ?_
        refine z_iadd C dL_law_334 ?_
        obtain ⟨g66, h⟩ := zd_some h
        refine z_sld C hX hbl hb I g66 dL_law_335 ?_
        obtain ⟨g67, h⟩ := zd_some h
        obtain ⟨r68, S69, h70, h⟩ := zcs h
        refine z_callVi C I (tX7_version _ D tc b _ h70) zyX7_version zyvX7_version zc7 g67 zq_306 (st := []) rfl rfl (by decide) hcs hl.1 (Nat.le_of_ble_eq_true rfl) dL_law_336 (fun H locs I => ?_)
        refine z_aload_n C hl 2 rfl dL_law_339 rfl ?_
        refine z_aload_s C hl 0 rfl dL_law_340 rfl ?_
        refine z_iload_n C hl 3 rfl dL_law_341 rfl ?_
        refine z_iconst C (v := 1) dL_law_342 (by decide) ?_
        refine z_iadd C dL_law_343 ?_
        refine z_sld C hX hbl hb I g64 dL_law_344 ?_
        refine z_aload_s C hl 0 rfl dL_law_345 rfl ?_
        refine z_iload_n C hl 3 rfl dL_law_346 rfl ?_
        refine z_iconst C (v := 2) dL_law_347 (by decide) ?_
        refine z_iadd C dL_law_348 ?_
        refine z_sld C hX hbl hb I g65 dL_law_349 ?_
        refine z_aload_s C hl 0 rfl dL_law_350 rfl ?_
        refine z_iload_n C hl 3 rfl dL_law_351 rfl ?_
        refine z_iconst C (v := 3) dL_law_352 (by decide) ?_
        refine z_iadd C dL_law_353 ?_
        refine z_sld C hX hbl hb I g66 dL_law_354 ?_
        obtain ⟨g71, h⟩ := zd_some h
        obtain ⟨r72, S73, h74, h⟩ := zcs h
        refine z_callVi C I (tX8_version _ D tc b _ h74) zyX8_version zyvX8_version zc8 g71 zq_801 (st := [zi r68]) rfl rfl (by decide) hcs hl.1 (Nat.le_of_ble_eq_true rfl) dL_law_355 (fun H locs I => ?_)
        refine z_icmp_eq C 1054 dL_law_358 (by decide) (fun c75 => ?_) (fun c75 => ?_)
        · have h := zit c75 h
          refine z_iinc C hl 3 (v := x3 + 6) rfl dL_law_1054 rfl (by decide) (fun v76 => [(3, zi v76), (0, zs b0), (1, zr x1), (2, zr x2)]) (fun _ => rfl) (fun v76 e77 ls hl => ?_)
          have h := znb e77 h
          refine z_goto C 18 dL_law_1057 (by decide) ?_
          exact ih _ _ _ _ _ _ _ h I (zL_sub hl [1, 2, 3, 0] rfl)
        · have h := zif c75 h
          refine z_iconst C (v := 0) dL_law_361 (by decide) ?_
          exact (z_01 h).elim
      have h := zif c63 h
      by_cases c78 : ((xs x3.toNatClampNeg) &&& 31 : Int32) = 5
      · have h := zit c78 h
        refine z_tsIn C (off := 330) 363 c78 dL_law_33 (by decide) (by decide) (by decide) (by decide) ?_
        refine z_aload_n C hl 1 rfl dL_law_363 rfl ?_
        refine z_aload_s C hl 0 rfl dL_law_364 rfl ?_
        refine z_iload_n C hl 3 rfl dL_law_365 rfl ?_
        refine z_iconst C (v := 1) dL_law_366 (by decide) ?_
        refine z_iadd C dL_law_367 ?_
        obtain ⟨g79, h⟩ := zd_some h
        refine z_sld C hX hbl hb I g79 dL_law_368 ?_
        refine z_aload_s C hl 0 rfl dL_law_369 rfl ?_
        refine z_iload_n C hl 3 rfl dL_law_370 rfl ?_
        refine z_iconst C (v := 2) dL_law_371 (by decide) ?_
        refine z_iadd C dL_law_372 ?_
        obtain ⟨g80, h⟩ := zd_some h
        refine z_sld C hX hbl hb I g80 dL_law_373 ?_
        refine z_aload_s C hl 0 rfl dL_law_374 rfl ?_
        refine z_iload_n C hl 3 rfl dL_law_375 rfl ?_
        refine z_iconst C (v := 3) dL_law_376 (by decide) ?_
        refine z_iadd C dL_law_377 ?_
        obtain ⟨g81, h⟩ := zd_some h
        refine z_sld C hX hbl hb I g81 dL_law_378 ?_
        obtain ⟨g82, h⟩ := zd_some h
        obtain ⟨r83, S84, h85, h⟩ := zcs h
        refine z_callVi C I (tX7_step _ D tc b _ h85) zyX7_step zyvX7_step zc7 g82 zq_319 (st := []) rfl rfl (by decide) hcs hl.1 (Nat.le_of_ble_eq_true rfl) dL_law_379 (fun H locs I => ?_)
        refine z_aload_n C hl 2 rfl dL_law_382 rfl ?_
        refine z_aload_s C hl 0 rfl dL_law_383 rfl ?_
        refine z_iload_n C hl 3 rfl dL_law_384 rfl ?_
        refine z_iconst C (v := 1) dL_law_385 (by decide) ?_
        refine z_iadd C dL_law_386 ?_
        refine z_sld C hX hbl hb I g79 dL_law_387 ?_
        refine z_aload_s C hl 0 rfl dL_law_388 rfl ?_
        refine z_iload_n C hl 3 rfl dL_law_389 rfl ?_
        refine z_iconst C (v := 2) dL_law_390 (by decide) ?_
        refine z_iadd C dL_law_391 ?_
        refine z_sld C hX hbl hb I g80 dL_law_392 ?_
        refine z_aload_s C hl 0 rfl dL_law_393 rfl ?_
        refine z_iload_n C hl 3 rfl dL_law_394 rfl ?_
        refine z_iconst C (v := 3) dL_law_395 (by decide) ?_
        refine z_iadd C dL_law_396 ?_
        refine z_sld C hX hbl hb I g81 dL_law_397 ?_
        obtain ⟨g86, h⟩ := zd_some h
        obtain ⟨r87, S88, h89, h⟩ := zcs h
        refine z_callVi C I (tX8_step _ D tc b _ h89) zyX8_step zyvX8_step zc8 g86 zq_808 (st := [zi r83]) rfl rfl (by decide) hcs hl.1 (Nat.le_of_ble_eq_true rfl) dL_law_398 (fun H locs I => ?_)
        refine z_icmp_eq C 1054 dL_law_401 (by decide) (fun c90 => ?_) (fun c90 => ?_)
        · have h := zit c90 h
          refine z_iinc C hl 3 (v := x3 + 6) rfl dL_law_1054 rfl (by decide) (fun v91 => [(3, zi v91), (0, zs b0), (1, zr x1), (2, zr x2)]) (fun _ => rfl) (fun v91 e92 ls hl => ?_)
          have h := znb e92 h
          refine z_goto C 18 dL_law_1057 (by decide) ?_
          exact ih _ _ _ _ _ _ _ h I (zL_sub hl [1, 2, 3, 0] rfl)
        · have h := zif c90 h
          refine z_iconst C (v := 0) dL_law_404 (by decide) ?_
          exact (z_01 h).elim
      have h := zif c78 h
      by_cases c93 : ((xs x3.toNatClampNeg) &&& 31 : Int32) = 6
      · have h := zit c93 h
        refine z_tsIn C (off := 373) 406 c93 dL_law_33 (by decide) (by decide) (by decide) (by decide) ?_
        refine z_aload_n C hl 1 rfl dL_law_406 rfl ?_
        refine z_aload_s C hl 0 rfl dL_law_407 rfl ?_
        refine z_iload_n C hl 3 rfl dL_law_408 rfl ?_
        refine z_iconst C (v := 1) dL_law_409 (by decide) ?_
        refine z_iadd C dL_law_410 ?_
        obtain ⟨g94, h⟩ := zd_some h
        refine z_sld C hX hbl hb I g94 dL_law_411 ?_
        refine z_aload_s C hl 0 rfl dL_law_412 rfl ?_
        refine z_iload_n C hl 3 rfl dL_law_413 rfl ?_
        refine z_iconst C (v := 2) dL_law_414 (by decide) ?_
        refine z_iadd C dL_law_415 ?_
        obtain ⟨g95, h⟩ := zd_some h
        refine z_sld C hX hbl hb I g95 dL_law_416 ?_
        refine z_aload_s C hl 0 rfl dL_law_417 rfl ?_
        refine z_iload_n C hl 3 rfl dL_law_418 rfl ?_
        refine z_iconst C (v := 3) dL_law_419 (by decide) ?_
        refine z_iadd C dL_law_420 ?_
        obtain ⟨g96, h⟩ := zd_some h
        refine z_sld C hX hbl hb I g96 dL_law_421 ?_
        obtain ⟨g97, h⟩ := zd_some h
        obtain ⟨r98, S99, h100, h⟩ := zcs h
        refine z_callVi C I (tX7_path _ D tc b _ h100) zyX7_path zyvX7_path zc7 g97 zq_335 (st := []) rfl rfl (by decide) hcs hl.1 (Nat.le_of_ble_eq_true rfl) dL_law_422 (fun H locs I => ?_)
        refine z_aload_n C hl 2 rfl dL_law_425 rfl ?_
        refine z_aload_s C hl 0 rfl dL_law_426 rfl ?_
        refine z_iload_n C hl 3 rfl dL_law_427 rfl ?_
        refine z_iconst C (v := 1) dL_law_428 (by decide) ?_
        refine z_iadd C dL_law_429 ?_
        refine z_sld C hX hbl hb I g94 dL_law_430 ?_
        refine z_aload_s C hl 0 rfl dL_law_431 rfl ?_
        refine z_iload_n C hl 3 rfl dL_law_432 rfl ?_
        refine z_iconst C (v := 2) dL_law_433 (by decide) ?_
        refine z_iadd C dL_law_434 ?_
        refine z_sld C hX hbl hb I g95 dL_law_435 ?_
        refine z_aload_s C hl 0 rfl dL_law_436 rfl ?_
        refine z_iload_n C hl 3 rfl dL_law_437 rfl ?_
        refine z_iconst C (v := 3) dL_law_438 (by decide) ?_
        refine z_iadd C dL_law_439 ?_
        refine z_sld C hX hbl hb I g96 dL_law_440 ?_
        obtain ⟨g101, h⟩ := zd_some h
        obtain ⟨r102, S103, h104, h⟩ := zcs h
        refine z_callVi C I (tX8_path _ D tc b _ h104) zyX8_path zyvX8_path zc8 g101 zq_821 (st := [zi r98]) rfl rfl (by decide) hcs hl.1 (Nat.le_of_ble_eq_true rfl) dL_law_441 (fun H locs I => ?_)
        refine z_icmp_eq C 1054 dL_law_444 (by decide) (fun c105 => ?_) (fun c105 => ?_)
        · have h := zit c105 h
          refine z_iinc C hl 3 (v := x3 + 6) rfl dL_law_1054 rfl (by decide) (fun v106 => [(3, zi v106), (0, zs b0), (1, zr x1), (2, zr x2)]) (fun _ => rfl) (fun v106 e107 ls hl => ?_)
          have h := znb e107 h
          refine z_goto C 18 dL_law_1057 (by decide) ?_
          exact ih _ _ _ _ _ _ _ h I (zL_sub hl [1, 2, 3, 0] rfl)
        · have h := zif c105 h
          refine z_iconst C (v := 0) dL_law_447 (by decide) ?_
          exact (z_01 h).elim
      have h := zif c93 h
      by_cases c108 : ((xs x3.toNatClampNeg) &&& 31 : Int32) = 7
      · have h := zit c108 h
        refine z_tsIn C (off := 416) 449 c108 dL_law_33 (by decide) (by decide) (by decide) (by decide) ?_
        refine z_aload_n C hl 1 rfl dL_law_449 rfl ?_
        refine z_aload_s C hl 0 rfl dL_law_450 rfl ?_
        refine z_iload_n C hl 3 rfl dL_law_451 rfl ?_
        refine z_iconst C (v := 1) dL_law_452 (by decide) ?_
        refine z_iadd C dL_law_453 ?_
        obtain ⟨g109, h⟩ := zd_some h
        refine z_sld C hX hbl hb I g109 dL_law_454 ?_
        refine z_aload_s C hl 0 rfl dL_law_455 rfl ?_
        refine z_iload_n C hl 3 rfl dL_law_456 rfl ?_
        refine z_iconst C (v := 2) dL_law_457 (by decide) ?_
        refine z_iadd C dL_law_458 ?_
        obtain ⟨g110, h⟩ := zd_some h
        refine z_sld C hX hbl hb I g110 dL_law_459 ?_
        refine z_aload_s C hl 0 rfl dL_law_460 rfl ?_
        refine z_iload_n C hl 3 rfl dL_law_461 rfl ?_
        refine z_iconst C (v := 3) dL_law_462 (by decide) ?_
        refine z_iadd C dL_law_463 ?_
        obtain ⟨g111, h⟩ := zd_some h
        refine z_sld C hX hbl hb I g111 dL_law_464 ?_
        obtain ⟨g112, h⟩ := zd_some h
        obtain ⟨r113, S114, h115, h⟩ := zcs h
        refine z_callVi C I (tX7_on _ D tc b _ h115) zyX7_on zyvX7_on zc7 g112 zq_348 (st := []) rfl rfl (by decide) hcs hl.1 (Nat.le_of_ble_eq_true rfl) dL_law_465 (fun H locs I => ?_)
        refine z_aload_n C hl 2 rfl dL_law_468 rfl ?_
        refine z_aload_s C hl 0 rfl dL_law_469 rfl ?_
        refine z_iload_n C hl 3 rfl dL_law_470 rfl ?_
        refine z_iconst C (v := 1) dL_law_471 (by decide) ?_
        refine z_iadd C dL_law_472 ?_
        refine z_sld C hX hbl hb I g109 dL_law_473 ?_
        refine z_aload_s C hl 0 rfl dL_law_474 rfl ?_
        refine z_iload_n C hl 3 rfl dL_law_475 rfl ?_
        refine z_iconst C (v := 2) dL_law_476 (by decide) ?_
        refine z_iadd C dL_law_477 ?_
        refine z_sld C hX hbl hb I g110 dL_law_478 ?_
        refine z_aload_s C hl 0 rfl dL_law_479 rfl ?_
        refine z_iload_n C hl 3 rfl dL_law_480 rfl ?_
        refine z_iconst C (v := 3) dL_law_481 (by decide) ?_
        refine z_iadd C dL_law_482 ?_
        refine z_sld C hX hbl hb I g111 dL_law_483 ?_
        obtain ⟨g116, h⟩ := zd_some h
        obtain ⟨r117, S118, h119, h⟩ := zcs h
        refine z_callVi C I (tX8_on _ D tc b _ h119) zyX8_on zyvX8_on zc8 g116 zq_830 (st := [zi r113]) rfl rfl (by decide) hcs hl.1 (Nat.le_of_ble_eq_true rfl) dL_law_484 (fun H locs I => ?_)
        refine z_icmp_eq C 1054 dL_law_487 (by decide) (fun c120 => ?_) (fun c120 => ?_)
        · have h := zit c120 h
          refine z_iinc C hl 3 (v := x3 + 6) rfl dL_law_1054 rfl (by decide) (fun v121 => [(3, zi v121), (0, zs b0), (1, zr x1), (2, zr x2)]) (fun _ => rfl) (fun v121 e122 ls hl => ?_)
          have h := znb e122 h
          refine z_goto C 18 dL_law_1057 (by decide) ?_
          exact ih _ _ _ _ _ _ _ h I (zL_sub hl [1, 2, 3, 0] rfl)
        · have h := zif c120 h
          refine z_iconst C (v := 0) dL_law_490 (by decide) ?_
          exact (z_01 h).elim
      have h := zif c108 h
      by_cases c123 : ((xs x3.toNatClampNeg) &&& 31 : Int32) = 8
      · have h := zit c123 h
        refine z_tsIn C (off := 459) 492 c123 dL_law_33 (by decide) (by decide) (by decide) (by decide) ?_
        refine z_aload_n C hl 1 rfl dL_law_492 rfl ?_
        refine z_aload_s C hl 0 rfl dL_law_493 rfl ?_
        refine z_iload_n C hl 3 rfl dL_law_494 rfl ?_
        refine z_iconst C (v := 1) dL_law_495 (by decide) ?_
        refine z_iadd C dL_law_496 ?_
        obtain ⟨g124, h⟩ := zd_some h
        refine z_sld C hX hbl hb I g124 dL_law_497 ?_
        refine z_aload_s C hl 0 rfl dL_law_498 rfl ?_
        refine z_iload_n C hl 3 rfl dL_law_499 rfl ?_
        refine z_iconst C (v := 2) dL_law_500 (by decide) ?_
        refine z_iadd C dL_law_501 ?_
        obtain ⟨g125, h⟩ := zd_some h
        refine z_sld C hX hbl hb I g125 dL_law_502 ?_
        refine z_aload_s C hl 0 rfl dL_law_503 rfl ?_
        refine z_iload_n C hl 3 rfl dL_law_504 rfl ?_
        refine z_iconst C (v := 3) dL_law_505 (by decide) ?_
        refine z_iadd C dL_law_506 ?_
        obtain ⟨g126, h⟩ := zd_some h
        refine z_sld C hX hbl hb I g126 dL_law_507 ?_
        obtain ⟨g127, h⟩ := zd_some h
        obtain ⟨r128, S129, h130, h⟩ := zcs h
        refine z_callVi C I (tX7_device _ D tc b _ h130) zyX7_device zyvX7_device zc7 g127 zq_357 (st := []) rfl rfl (by decide) hcs hl.1 (Nat.le_of_ble_eq_true rfl) dL_law_508 (fun H locs I => ?_)
        refine z_aload_n C hl 2 rfl dL_law_511 rfl ?_
        refine z_aload_s C hl 0 rfl dL_law_512 rfl ?_
        refine z_iload_n C hl 3 rfl dL_law_513 rfl ?_
        refine z_iconst C (v := 1) dL_law_514 (by decide) ?_
        refine z_iadd C dL_law_515 ?_
        refine z_sld C hX hbl hb I g124 dL_law_516 ?_
        refine z_aload_s C hl 0 rfl dL_law_517 rfl ?_
        refine z_iload_n C hl 3 rfl dL_law_518 rfl ?_
        refine z_iconst C (v := 2) dL_law_519 (by decide) ?_
        refine z_iadd C dL_law_520 ?_
        refine z_sld C hX hbl hb I g125 dL_law_521 ?_
        refine z_aload_s C hl 0 rfl dL_law_522 rfl ?_
        refine z_iload_n C hl 3 rfl dL_law_523 rfl ?_
        refine z_iconst C (v := 3) dL_law_524 (by decide) ?_
        refine z_iadd C dL_law_525 ?_
        refine z_sld C hX hbl hb I g126 dL_law_526 ?_
        obtain ⟨g131, h⟩ := zd_some h
        obtain ⟨r132, S133, h134, h⟩ := zcs h
        refine z_callVi C I (tX8_device _ D tc b _ h134) zyX8_device zyvX8_device zc8 g131 zq_834 (st := [zi r128]) rfl rfl (by decide) hcs hl.1 (Nat.le_of_ble_eq_true rfl) dL_law_527 (fun H locs I => ?_)
        refine z_icmp_eq C 1054 dL_law_530 (by decide) (fun c135 => ?_) (fun c135 => ?_)
        · have h := zit c135 h
          refine z_iinc C hl 3 (v := x3 + 6) rfl dL_law_1054 rfl (by decide) (fun v136 => [(3, zi v136), (0, zs b0), (1, zr x1), (2, zr x2)]) (fun _ => rfl) (fun v136 e137 ls hl => ?_)
          have h := znb e137 h
          refine z_goto C 18 dL_law_1057 (by decide) ?_
          exact ih _ _ _ _ _ _ _ h I (zL_sub hl [1, 2, 3, 0] rfl)
        · have h := zif c135 h
          refine z_iconst C (v := 0) dL_law_533 (by decide) ?_
          exact (z_01 h).elim
      have h := zif c123 h
      by_cases c138 : ((xs x3.toNatClampNeg) &&& 31 : Int32) = 9
      · have h := zit c138 h
        refine z_tsIn C (off := 502) 535 c138 dL_law_33 (by decide) (by decide) (by decide) (by decide) ?_
        refine z_aload_n C hl 1 rfl dL_law_535 rfl ?_
        refine z_aload_s C hl 0 rfl dL_law_536 rfl ?_
        refine z_iload_n C hl 3 rfl dL_law_537 rfl ?_
        refine z_iconst C (v := 1) dL_law_538 (by decide) ?_
        refine z_iadd C dL_law_539 ?_
        obtain ⟨g139, h⟩ := zd_some h
        refine z_sld C hX hbl hb I g139 dL_law_540 ?_
        refine z_aload_s C hl 0 rfl dL_law_541 rfl ?_
        refine z_iload_n C hl 3 rfl dL_law_542 rfl ?_
        refine z_iconst C (v := 2) dL_law_543 (by decide) ?_
        refine z_iadd C dL_law_544 ?_
        obtain ⟨g140, h⟩ := zd_some h
        refine z_sld C hX hbl hb I g140 dL_law_545 ?_
        obtain ⟨g141, h⟩ := zd_some h
        obtain ⟨r142, S143, h144, h⟩ := zcs h
        refine z_callVi C I (tX7_told _ D tc b _ h144) zyX7_told zyvX7_told zc7 g141 zq_378 (st := []) rfl rfl (by decide) hcs hl.1 (Nat.le_of_ble_eq_true rfl) dL_law_546 (fun H locs I => ?_)
        refine z_aload_n C hl 2 rfl dL_law_549 rfl ?_
        refine z_aload_s C hl 0 rfl dL_law_550 rfl ?_
        refine z_iload_n C hl 3 rfl dL_law_551 rfl ?_
        refine z_iconst C (v := 1) dL_law_552 (by decide) ?_
        refine z_iadd C dL_law_553 ?_
        refine z_sld C hX hbl hb I g139 dL_law_554 ?_
        refine z_aload_s C hl 0 rfl dL_law_555 rfl ?_
        refine z_iload_n C hl 3 rfl dL_law_556 rfl ?_
        refine z_iconst C (v := 2) dL_law_557 (by decide) ?_
        refine z_iadd C dL_law_558 ?_
        refine z_sld C hX hbl hb I g140 dL_law_559 ?_
        obtain ⟨g145, h⟩ := zd_some h
        obtain ⟨r146, S147, h148, h⟩ := zcs h
        refine z_callVi C I (tX8_told _ D tc b _ h148) zyX8_told zyvX8_told zc8 g145 zq_847 (st := [zi r142]) rfl rfl (by decide) hcs hl.1 (Nat.le_of_ble_eq_true rfl) dL_law_560 (fun H locs I => ?_)
        refine z_icmp_eq C 1054 dL_law_563 (by decide) (fun c149 => ?_) (fun c149 => ?_)
        · have h := zit c149 h
          refine z_iinc C hl 3 (v := x3 + 6) rfl dL_law_1054 rfl (by decide) (fun v150 => [(3, zi v150), (0, zs b0), (1, zr x1), (2, zr x2)]) (fun _ => rfl) (fun v150 e151 ls hl => ?_)
          have h := znb e151 h
          refine z_goto C 18 dL_law_1057 (by decide) ?_
          exact ih _ _ _ _ _ _ _ h I (zL_sub hl [1, 2, 3, 0] rfl)
        · have h := zif c149 h
          refine z_iconst C (v := 0) dL_law_566 (by decide) ?_
          exact (z_01 h).elim
      have h := zif c138 h
      by_cases c152 : ((xs x3.toNatClampNeg) &&& 31 : Int32) = 10
      · have h := zit c152 h
        refine z_tsIn C (off := 535) 568 c152 dL_law_33 (by decide) (by decide) (by decide) (by decide) ?_
        refine z_aload_n C hl 1 rfl dL_law_568 rfl ?_
        refine z_aload_s C hl 0 rfl dL_law_569 rfl ?_
        refine z_iload_n C hl 3 rfl dL_law_570 rfl ?_
        refine z_iconst C (v := 1) dL_law_571 (by decide) ?_
        refine z_iadd C dL_law_572 ?_
        obtain ⟨g153, h⟩ := zd_some h
        refine z_sld C hX hbl hb I g153 dL_law_573 ?_
        refine z_aload_s C hl 0 rfl dL_law_574 rfl ?_
        refine z_iload_n C hl 3 rfl dL_law_575 rfl ?_
        refine z_iconst C (v := 2) dL_law_576 (by decide) ?_
        refine z_iadd C dL_law_577 ?_
        obtain ⟨g154, h⟩ := zd_some h
        refine z_sld C hX hbl hb I g154 dL_law_578 ?_
        obtain ⟨g155, h⟩ := zd_some h
        obtain ⟨r156, S157, h158, h⟩ := zcs h
        refine z_callVi C I (tX7_update _ D tc b _ h158) zyX7_update zyvX7_update zc7 g155 zq_401 (st := []) rfl rfl (by decide) hcs hl.1 (Nat.le_of_ble_eq_true rfl) dL_law_579 (fun H locs I => ?_)
        refine z_aload_n C hl 2 rfl dL_law_582 rfl ?_
        refine z_aload_s C hl 0 rfl dL_law_583 rfl ?_
        refine z_iload_n C hl 3 rfl dL_law_584 rfl ?_
        refine z_iconst C (v := 1) dL_law_585 (by decide) ?_
        refine z_iadd C dL_law_586 ?_
        refine z_sld C hX hbl hb I g153 dL_law_587 ?_
        refine z_aload_s C hl 0 rfl dL_law_588 rfl ?_
        refine z_iload_n C hl 3 rfl dL_law_589 rfl ?_
        refine z_iconst C (v := 2) dL_law_590 (by decide) ?_
        refine z_iadd C dL_law_591 ?_
        refine z_sld C hX hbl hb I g154 dL_law_592 ?_
        obtain ⟨g159, h⟩ := zd_some h
        obtain ⟨r160, S161, h162, h⟩ := zcs h
        refine z_callVi C I (tX8_update _ D tc b _ h162) zyX8_update zyvX8_update zc8 g159 zq_869 (st := [zi r156]) rfl rfl (by decide) hcs hl.1 (Nat.le_of_ble_eq_true rfl) dL_law_593 (fun H locs I => ?_)
        refine z_icmp_eq C 1054 dL_law_596 (by decide) (fun c163 => ?_) (fun c163 => ?_)
        · have h := zit c163 h
          refine z_iinc C hl 3 (v := x3 + 6) rfl dL_law_1054 rfl (by decide) (fun v164 => [(3, zi v164), (0, zs b0), (1, zr x1), (2, zr x2)]) (fun _ => rfl) (fun v164 e165 ls hl => ?_)
          have h := znb e165 h
          refine z_goto C 18 dL_law_1057 (by decide) ?_
          exact ih _ _ _ _ _ _ _ h I (zL_sub hl [1, 2, 3, 0] rfl)
        · have h := zif c163 h
          refine z_iconst C (v := 0) dL_law_599 (by decide) ?_
          exact (z_01 h).elim
      have h := zif c152 h
      by_cases c166 : ((xs x3.toNatClampNeg) &&& 31 : Int32) = 11
      · have h := zit c166 h
        refine z_tsIn C (off := 568) 601 c166 dL_law_33 (by decide) (by decide) (by decide) (by decide) ?_
        refine z_aload_n C hl 1 rfl dL_law_601 rfl ?_
        refine z_aload_s C hl 0 rfl dL_law_602 rfl ?_
        refine z_iload_n C hl 3 rfl dL_law_603 rfl ?_
        refine z_iconst C (v := 1) dL_law_604 (by decide) ?_
        refine z_iadd C dL_law_605 ?_
        obtain ⟨g167, h⟩ := zd_some h
        refine z_sld C hX hbl hb I g167 dL_law_606 ?_
        refine z_aload_s C hl 0 rfl dL_law_607 rfl ?_
        refine z_iload_n C hl 3 rfl dL_law_608 rfl ?_
        refine z_iconst C (v := 2) dL_law_609 (by decide) ?_
        refine z_iadd C dL_law_610 ?_
        obtain ⟨g168, h⟩ := zd_some h
        refine z_sld C hX hbl hb I g168 dL_law_611 ?_
        obtain ⟨g169, h⟩ := zd_some h
        obtain ⟨r170, S171, h172, h⟩ := zcs h
        refine z_callVi C I (tX7_acts _ D tc b _ h172) zyX7_acts zyvX7_acts zc7 g169 zq_448 (st := []) rfl rfl (by decide) hcs hl.1 (Nat.le_of_ble_eq_true rfl) dL_law_612 (fun H locs I => ?_)
        refine z_aload_n C hl 2 rfl dL_law_615 rfl ?_
        refine z_aload_s C hl 0 rfl dL_law_616 rfl ?_
        refine z_iload_n C hl 3 rfl dL_law_617 rfl ?_
        refine z_iconst C (v := 1) dL_law_618 (by decide) ?_
        refine z_iadd C dL_law_619 ?_
        refine z_sld C hX hbl hb I g167 dL_law_620 ?_
        refine z_aload_s C hl 0 rfl dL_law_621 rfl ?_
        refine z_iload_n C hl 3 rfl dL_law_622 rfl ?_
        refine z_iconst C (v := 2) dL_law_623 (by decide) ?_
        refine z_iadd C dL_law_624 ?_
        refine z_sld C hX hbl hb I g168 dL_law_625 ?_
        obtain ⟨g173, h⟩ := zd_some h
        obtain ⟨r174, S175, h176, h⟩ := zcs h
        refine z_callVi C I (tX8_acts _ D tc b _ h176) zyX8_acts zyvX8_acts zc8 g173 zq_893 (st := [zi r170]) rfl rfl (by decide) hcs hl.1 (Nat.le_of_ble_eq_true rfl) dL_law_626 (fun H locs I => ?_)
        refine z_icmp_eq C 1054 dL_law_629 (by decide) (fun c177 => ?_) (fun c177 => ?_)
        · have h := zit c177 h
          refine z_iinc C hl 3 (v := x3 + 6) rfl dL_law_1054 rfl (by decide) (fun v178 => [(3, zi v178), (0, zs b0), (1, zr x1), (2, zr x2)]) (fun _ => rfl) (fun v178 e179 ls hl => ?_)
          have h := znb e179 h
          refine z_goto C 18 dL_law_1057 (by decide) ?_
          exact ih _ _ _ _ _ _ _ h I (zL_sub hl [1, 2, 3, 0] rfl)
        · have h := zif c177 h
          refine z_iconst C (v := 0) dL_law_632 (by decide) ?_
          exact (z_01 h).elim
      have h := zif c166 h
      by_cases c180 : ((xs x3.toNatClampNeg) &&& 31 : Int32) = 12
      · have h := zit c180 h
        refine z_tsIn C (off := 601) 634 c180 dL_law_33 (by decide) (by decide) (by decide) (by decide) ?_
        refine z_aload_n C hl 1 rfl dL_law_634 rfl ?_
        refine z_aload_s C hl 0 rfl dL_law_635 rfl ?_
        refine z_iload_n C hl 3 rfl dL_law_636 rfl ?_
        refine z_iconst C (v := 1) dL_law_637 (by decide) ?_
        refine z_iadd C dL_law_638 ?_
        obtain ⟨g181, h⟩ := zd_some h
        refine z_sld C hX hbl hb I g181 dL_law_639 ?_
        refine z_aload_s C hl 0 rfl dL_law_640 rfl ?_
        refine z_iload_n C hl 3 rfl dL_law_641 rfl ?_
        refine z_iconst C (v := 2) dL_law_642 (by decide) ?_
        refine z_iadd C dL_law_643 ?_
        obtain ⟨g182, h⟩ := zd_some h
        refine z_sld C hX hbl hb I g182 dL_law_644 ?_
        refine z_aload_s C hl 0 rfl dL_law_645 rfl ?_
        refine z_iload_n C hl 3 rfl dL_law_646 rfl ?_
        refine z_iconst C (v := 3) dL_law_647 (by decide) ?_
        refine z_iadd C dL_law_648 ?_
        obtain ⟨g183, h⟩ := zd_some h
        refine z_sld C hX hbl hb I g183 dL_law_649 ?_
        obtain ⟨g184, h⟩ := zd_some h
        obtain ⟨r185, S186, h187, h⟩ := zcs h
        refine z_callVi C I (tX7_power _ D tc b _ h187) zyX7_power zyvX7_power zc7 g184 zq_456 (st := []) rfl rfl (by decide) hcs hl.1 (Nat.le_of_ble_eq_true rfl) dL_law_650 (fun H locs I => ?_)
        refine z_aload_n C hl 2 rfl dL_law_653 rfl ?_
        refine z_aload_s C hl 0 rfl dL_law_654 rfl ?_
        refine z_iload_n C hl 3 rfl dL_law_655 rfl ?_
        refine z_iconst C (v := 1) dL_law_656 (by decide) ?_
        refine z_iadd C dL_law_657 ?_
        refine z_sld C hX hbl hb I g181 dL_law_658 ?_
        refine z_aload_s C hl 0 rfl dL_law_659 rfl ?_
        refine z_iload_n C hl 3 rfl dL_law_660 rfl ?_
        refine z_iconst C (v := 2) dL_law_661 (by decide) ?_
        refine z_iadd C dL_law_662 ?_
        refine z_sld C hX hbl hb I g182 dL_law_663 ?_
        refine z_aload_s C hl 0 rfl dL_law_664 rfl ?_
        refine z_iload_n C hl 3 rfl dL_law_665 rfl ?_
        refine z_iconst C (v := 3) dL_law_666 (by decide) ?_
        refine z_iadd C dL_law_667 ?_
        refine z_sld C hX hbl hb I g183 dL_law_668 ?_
        obtain ⟨g188, h⟩ := zd_some h
        obtain ⟨r189, S190, h191, h⟩ := zcs h
        refine z_callVi C I (tX8_power _ D tc b _ h191) zyX8_power zyvX8_power zc8 g188 zq_897 (st := [zi r185]) rfl rfl (by decide) hcs hl.1 (Nat.le_of_ble_eq_true rfl) dL_law_669 (fun H locs I => ?_)
        refine z_icmp_eq C 1054 dL_law_672 (by decide) (fun c192 => ?_) (fun c192 => ?_)
        · have h := zit c192 h
          refine z_iinc C hl 3 (v := x3 + 6) rfl dL_law_1054 rfl (by decide) (fun v193 => [(3, zi v193), (0, zs b0), (1, zr x1), (2, zr x2)]) (fun _ => rfl) (fun v193 e194 ls hl => ?_)
          have h := znb e194 h
          refine z_goto C 18 dL_law_1057 (by decide) ?_
          exact ih _ _ _ _ _ _ _ h I (zL_sub hl [1, 2, 3, 0] rfl)
        · have h := zif c192 h
          refine z_iconst C (v := 0) dL_law_675 (by decide) ?_
          exact (z_01 h).elim
      have h := zif c180 h
      by_cases c195 : ((xs x3.toNatClampNeg) &&& 31 : Int32) = 13
      · have h := zit c195 h
        refine z_tsIn C (off := 644) 677 c195 dL_law_33 (by decide) (by decide) (by decide) (by decide) ?_
        refine z_aload_n C hl 1 rfl dL_law_677 rfl ?_
        refine z_aload_s C hl 0 rfl dL_law_678 rfl ?_
        refine z_iload_n C hl 3 rfl dL_law_679 rfl ?_
        refine z_iconst C (v := 1) dL_law_680 (by decide) ?_
        refine z_iadd C dL_law_681 ?_
        obtain ⟨g196, h⟩ := zd_some h
        refine z_sld C hX hbl hb I g196 dL_law_682 ?_
        refine z_aload_s C hl 0 rfl dL_law_683 rfl ?_
        refine z_iload_n C hl 3 rfl dL_law_684 rfl ?_
        refine z_iconst C (v := 2) dL_law_685 (by decide) ?_
        refine z_iadd C dL_law_686 ?_
        obtain ⟨g197, h⟩ := zd_some h
        refine z_sld C hX hbl hb I g197 dL_law_687 ?_
        refine z_aload_s C hl 0 rfl dL_law_688 rfl ?_
        refine z_iload_n C hl 3 rfl dL_law_689 rfl ?_
        refine z_iconst C (v := 3) dL_law_690 (by decide) ?_
        refine z_iadd C dL_law_691 ?_
        obtain ⟨g198, h⟩ := zd_some h
        refine z_sld C hX hbl hb I g198 dL_law_692 ?_
        refine z_aload_s C hl 0 rfl dL_law_693 rfl ?_
        refine z_iload_n C hl 3 rfl dL_law_694 rfl ?_
        refine z_iconst C (v := 4) dL_law_695 (by decide) ?_
        refine z_iadd C dL_law_696 ?_
        obtain ⟨g199, h⟩ := zd_some h
        refine z_sld C hX hbl hb I g199 dL_law_697 ?_
        obtain ⟨g200, h⟩ := zd_some h
        obtain ⟨r201, S202, h203, h⟩ := zcs h
        refine z_callVi C I (tX7_cut _ D tc b _ h203) zyX7_cut zyvX7_cut zc7 g200 zq_465 (st := []) rfl rfl (by decide) hcs hl.1 (Nat.le_of_ble_eq_true rfl) dL_law_698 (fun H locs I => ?_)
        refine z_aload_n C hl 2 rfl dL_law_701 rfl ?_
        refine z_aload_s C hl 0 rfl dL_law_702 rfl ?_
        refine z_iload_n C hl 3 rfl dL_law_703 rfl ?_
        refine z_iconst C (v := 1) dL_law_704 (by decide) ?_
        refine z_iadd C dL_law_705 ?_
        refine z_sld C hX hbl hb I g196 dL_law_706 ?_
        refine z_aload_s C hl 0 rfl dL_law_707 rfl ?_
        refine z_iload_n C hl 3 rfl dL_law_708 rfl ?_
        refine z_iconst C (v := 2) dL_law_709 (by decide) ?_
        refine z_iadd C dL_law_710 ?_
        refine z_sld C hX hbl hb I g197 dL_law_711 ?_
        refine z_aload_s C hl 0 rfl dL_law_712 rfl ?_
        refine z_iload_n C hl 3 rfl dL_law_713 rfl ?_
        refine z_iconst C (v := 3) dL_law_714 (by decide) ?_
        refine z_iadd C dL_law_715 ?_
        refine z_sld C hX hbl hb I g198 dL_law_716 ?_
        refine z_aload_s C hl 0 rfl dL_law_717 rfl ?_
        refine z_iload_n C hl 3 rfl dL_law_718 rfl ?_
        refine z_iconst C (v := 4) dL_law_719 (by decide) ?_
        refine z_iadd C dL_law_720 ?_
        refine z_sld C hX hbl hb I g199 dL_law_721 ?_
        obtain ⟨g204, h⟩ := zd_some h
        obtain ⟨r205, S206, h207, h⟩ := zcs h
        refine z_callVi C I (tX8_cut _ D tc b _ h207) zyX8_cut zyvX8_cut zc8 g204 zq_902 (st := [zi r201]) rfl rfl (by decide) hcs hl.1 (Nat.le_of_ble_eq_true rfl) dL_law_722 (fun H locs I => ?_)
        refine z_icmp_eq C 1054 dL_law_725 (by decide) (fun c208 => ?_) (fun c208 => ?_)
        · have h := zit c208 h
          refine z_iinc C hl 3 (v := x3 + 6) rfl dL_law_1054 rfl (by decide) (fun v209 => [(3, zi v209), (0, zs b0), (1, zr x1), (2, zr x2)]) (fun _ => rfl) (fun v209 e210 ls hl => ?_)
          have h := znb e210 h
          refine z_goto C 18 dL_law_1057 (by decide) ?_
          exact ih _ _ _ _ _ _ _ h I (zL_sub hl [1, 2, 3, 0] rfl)
        · have h := zif c208 h
          refine z_iconst C (v := 0) dL_law_728 (by decide) ?_
          exact (z_01 h).elim
      have h := zif c195 h
      by_cases c211 : ((xs x3.toNatClampNeg) &&& 31 : Int32) = 14
      · have h := zit c211 h
        refine z_tsIn C (off := 697) 730 c211 dL_law_33 (by decide) (by decide) (by decide) (by decide) ?_
        refine z_aload_n C hl 1 rfl dL_law_730 rfl ?_
        refine z_aload_s C hl 0 rfl dL_law_731 rfl ?_
        refine z_iload_n C hl 3 rfl dL_law_732 rfl ?_
        refine z_iconst C (v := 1) dL_law_733 (by decide) ?_
        refine z_iadd C dL_law_734 ?_
        obtain ⟨g212, h⟩ := zd_some h
        refine z_sld C hX hbl hb I g212 dL_law_735 ?_
        obtain ⟨g213, h⟩ := zd_some h
        obtain ⟨r214, S215, h216, h⟩ := zcs h
        refine z_callVi C I (tX7_seed _ D tc b _ h216) zyX7_seed zyvX7_seed zc7 g213 zq_469 (st := []) rfl rfl (by decide) hcs hl.1 (Nat.le_of_ble_eq_true rfl) dL_law_736 (fun H locs I => ?_)
        refine z_aload_n C hl 2 rfl dL_law_739 rfl ?_
        refine z_aload_s C hl 0 rfl dL_law_740 rfl ?_
        refine z_iload_n C hl 3 rfl dL_law_741 rfl ?_
        refine z_iconst C (v := 1) dL_law_742 (by decide) ?_
        refine z_iadd C dL_law_743 ?_
        refine z_sld C hX hbl hb I g212 dL_law_744 ?_
        obtain ⟨g217, h⟩ := zd_some h
        obtain ⟨r218, S219, h220, h⟩ := zcs h
        refine z_callVi C I (tX8_seed _ D tc b _ h220) zyX8_seed zyvX8_seed zc8 g217 zq_907 (st := [zi r214]) rfl rfl (by decide) hcs hl.1 (Nat.le_of_ble_eq_true rfl) dL_law_745 (fun H locs I => ?_)
        refine z_icmp_eq C 1054 dL_law_748 (by decide) (fun c221 => ?_) (fun c221 => ?_)
        · have h := zit c221 h
          refine z_iinc C hl 3 (v := x3 + 6) rfl dL_law_1054 rfl (by decide) (fun v222 => [(3, zi v222), (0, zs b0), (1, zr x1), (2, zr x2)]) (fun _ => rfl) (fun v222 e223 ls hl => ?_)
          have h := znb e223 h
          refine z_goto C 18 dL_law_1057 (by decide) ?_
          exact ih _ _ _ _ _ _ _ h I (zL_sub hl [1, 2, 3, 0] rfl)
        · have h := zif c221 h
          refine z_iconst C (v := 0) dL_law_751 (by decide) ?_
          exact (z_01 h).elim
      have h := zif c211 h
      by_cases c224 : ((xs x3.toNatClampNeg) &&& 31 : Int32) = 15
      · have h := zit c224 h
        refine z_tsIn C (off := 720) 753 c224 dL_law_33 (by decide) (by decide) (by decide) (by decide) ?_
        refine z_aload_n C hl 1 rfl dL_law_753 rfl ?_
        refine z_aload_s C hl 0 rfl dL_law_754 rfl ?_
        refine z_iload_n C hl 3 rfl dL_law_755 rfl ?_
        refine z_iconst C (v := 1) dL_law_756 (by decide) ?_
        refine z_iadd C dL_law_757 ?_
        obtain ⟨g225, h⟩ := zd_some h
        refine z_sld C hX hbl hb I g225 dL_law_758 ?_
        refine z_aload_s C hl 0 rfl dL_law_759 rfl ?_
        refine z_iload_n C hl 3 rfl dL_law_760 rfl ?_
        refine z_iconst C (v := 2) dL_law_761 (by decide) ?_
        refine z_iadd C dL_law_762 ?_
        obtain ⟨g226, h⟩ := zd_some h
        refine z_sld C hX hbl hb I g226 dL_law_763 ?_
        refine z_aload_s C hl 0 rfl dL_law_764 rfl ?_
        refine z_iload_n C hl 3 rfl dL_law_765 rfl ?_
        refine z_iconst C (v := 3) dL_law_766 (by decide) ?_
        refine z_iadd C dL_law_767 ?_
        obtain ⟨g227, h⟩ := zd_some h
        refine z_sld C hX hbl hb I g227 dL_law_768 ?_
        refine z_aload_s C hl 0 rfl dL_law_769 rfl ?_
        refine z_iload_n C hl 3 rfl dL_law_770 rfl ?_
        refine z_iconst C (v := 4) dL_law_771 (by decide) ?_
        refine z_iadd C dL_law_772 ?_
        obtain ⟨g228, h⟩ := zd_some h
        refine z_sld C hX hbl hb I g228 dL_law_773 ?_
        refine z_aload_s C hl 0 rfl dL_law_774 rfl ?_
        refine z_iload_n C hl 3 rfl dL_law_775 rfl ?_
        refine z_iconst C (v := 5) dL_law_776 (by decide) ?_
        refine z_iadd C dL_law_777 ?_
        obtain ⟨g229, h⟩ := zd_some h
        refine z_sld C hX hbl hb I g229 dL_law_778 ?_
        obtain ⟨g230, h⟩ := zd_some h
        obtain ⟨r231, S232, h233, h⟩ := zcs h
        refine z_callVi C I (tX7_campaign _ D tc b _ h233) zyX7_campaign zyvX7_campaign zc7 g230 zq_473 (st := []) rfl rfl (by decide) hcs hl.1 (Nat.le_of_ble_eq_true rfl) dL_law_779 (fun H locs I => ?_)
        refine z_aload_n C hl 2 rfl dL_law_782 rfl ?_
        refine z_aload_s C hl 0 rfl dL_law_783 rfl ?_
        refine z_iload_n C hl 3 rfl dL_law_784 rfl ?_
        refine z_iconst C (v := 1) dL_law_785 (by decide) ?_
        refine z_iadd C dL_law_786 ?_
        refine z_sld C hX hbl hb I g225 dL_law_787 ?_
        refine z_aload_s C hl 0 rfl dL_law_788 rfl ?_
        refine z_iload_n C hl 3 rfl dL_law_789 rfl ?_
        refine z_iconst C (v := 2) dL_law_790 (by decide) ?_
        refine z_iadd C dL_law_791 ?_
        refine z_sld C hX hbl hb I g226 dL_law_792 ?_
        refine z_aload_s C hl 0 rfl dL_law_793 rfl ?_
        refine z_iload_n C hl 3 rfl dL_law_794 rfl ?_
        refine z_iconst C (v := 3) dL_law_795 (by decide) ?_
        refine z_iadd C dL_law_796 ?_
        refine z_sld C hX hbl hb I g227 dL_law_797 ?_
        refine z_aload_s C hl 0 rfl dL_law_798 rfl ?_
        refine z_iload_n C hl 3 rfl dL_law_799 rfl ?_
        refine z_iconst C (v := 4) dL_law_800 (by decide) ?_
        refine z_iadd C dL_law_801 ?_
        refine z_sld C hX hbl hb I g228 dL_law_802 ?_
        refine z_aload_s C hl 0 rfl dL_law_803 rfl ?_
        refine z_iload_n C hl 3 rfl dL_law_804 rfl ?_
        refine z_iconst C (v := 5) dL_law_805 (by decide) ?_
        refine z_iadd C dL_law_806 ?_
        refine z_sld C hX hbl hb I g229 dL_law_807 ?_
        obtain ⟨g234, h⟩ := zd_some h
        obtain ⟨r235, S236, h237, h⟩ := zcs h
        refine z_callVi C I (tX8_campaign _ D tc b _ h237) zyX8_campaign zyvX8_campaign zc8 g234 zq_911 (st := [zi r231]) rfl rfl (by decide) hcs hl.1 (Nat.le_of_ble_eq_true rfl) dL_law_808 (fun H locs I => ?_)
        refine z_icmp_eq C 1054 dL_law_811 (by decide) (fun c238 => ?_) (fun c238 => ?_)
        · have h := zit c238 h
          refine z_iinc C hl 3 (v := x3 + 6) rfl dL_law_1054 rfl (by decide) (fun v239 => [(3, zi v239), (0, zs b0), (1, zr x1), (2, zr x2)]) (fun _ => rfl) (fun v239 e240 ls hl => ?_)
          have h := znb e240 h
          refine z_goto C 18 dL_law_1057 (by decide) ?_
          exact ih _ _ _ _ _ _ _ h I (zL_sub hl [1, 2, 3, 0] rfl)
        · have h := zif c238 h
          refine z_iconst C (v := 0) dL_law_814 (by decide) ?_
          exact (z_01 h).elim
      have h := zif c224 h
      by_cases c241 : ((xs x3.toNatClampNeg) &&& 31 : Int32) = 16
      · have h := zit c241 h
        refine z_tsIn C (off := 783) 816 c241 dL_law_33 (by decide) (by decide) (by decide) (by decide) ?_
        refine z_aload_n C hl 1 rfl dL_law_816 rfl ?_
        refine z_aload_s C hl 0 rfl dL_law_817 rfl ?_
        refine z_iload_n C hl 3 rfl dL_law_818 rfl ?_
        refine z_iconst C (v := 1) dL_law_819 (by decide) ?_
        refine z_iadd C dL_law_820 ?_
        obtain ⟨g242, h⟩ := zd_some h
        refine z_sld C hX hbl hb I g242 dL_law_821 ?_
        obtain ⟨g243, h⟩ := zd_some h
        obtain ⟨r244, S245, h246, h⟩ := zcs h
        refine z_callVi C I (tX7_tick _ D tc b _ h246) zyX7_tick zyvX7_tick zc7 g243 zq_502 (st := []) rfl rfl (by decide) hcs hl.1 (Nat.le_of_ble_eq_true rfl) dL_law_822 (fun H locs I => ?_)
        refine z_aload_n C hl 2 rfl dL_law_825 rfl ?_
        refine z_aload_s C hl 0 rfl dL_law_826 rfl ?_
        refine z_iload_n C hl 3 rfl dL_law_827 rfl ?_
        refine z_iconst C (v := 1) dL_law_828 (by decide) ?_
        refine z_iadd C dL_law_829 ?_
        refine z_sld C hX hbl hb I g242 dL_law_830 ?_
        obtain ⟨g247, h⟩ := zd_some h
        obtain ⟨r248, S249, h250, h⟩ := zcs h
        refine z_callVi C I (tX8_tick _ D tc b _ h250) zyX8_tick zyvX8_tick zc8 g247 zq_922 (st := [zi r244]) rfl rfl (by decide) hcs hl.1 (Nat.le_of_ble_eq_true rfl) dL_law_831 (fun H locs I => ?_)
        refine z_icmp_eq C 1054 dL_law_834 (by decide) (fun c251 => ?_) (fun c251 => ?_)
        · have h := zit c251 h
          refine z_iinc C hl 3 (v := x3 + 6) rfl dL_law_1054 rfl (by decide) (fun v252 => [(3, zi v252), (0, zs b0), (1, zr x1), (2, zr x2)]) (fun _ => rfl) (fun v252 e253 ls hl => ?_)
          have h := znb e253 h
          refine z_goto C 18 dL_law_1057 (by decide) ?_
          exact ih _ _ _ _ _ _ _ h I (zL_sub hl [1, 2, 3, 0] rfl)
        · have h := zif c251 h
          refine z_iconst C (v := 0) dL_law_837 (by decide) ?_
          exact (z_01 h).elim
      have h := zif c241 h
      by_cases c254 : ((xs x3.toNatClampNeg) &&& 31 : Int32) = 17
      · have h := zit c254 h
        refine z_tsIn C (off := 806) 839 c254 dL_law_33 (by decide) (by decide) (by decide) (by decide) ?_
        refine z_aload_n C hl 1 rfl dL_law_839 rfl ?_
        refine z_aload_s C hl 0 rfl dL_law_840 rfl ?_
        refine z_iload_n C hl 3 rfl dL_law_841 rfl ?_
        refine z_iconst C (v := 1) dL_law_842 (by decide) ?_
        refine z_iadd C dL_law_843 ?_
        obtain ⟨g255, h⟩ := zd_some h
        refine z_sld C hX hbl hb I g255 dL_law_844 ?_
        obtain ⟨g256, h⟩ := zd_some h
        obtain ⟨r257, S258, h259, h⟩ := zcs h
        refine z_callVi C I (tX7_runs _ D tc b _ h259) zyX7_runs zyvX7_runs zc7 g256 zq_535 (st := []) rfl rfl (by decide) hcs hl.1 (Nat.le_of_ble_eq_true rfl) dL_law_845 (fun H locs I => ?_)
        refine z_aload_n C hl 2 rfl dL_law_848 rfl ?_
        refine z_aload_s C hl 0 rfl dL_law_849 rfl ?_
        refine z_iload_n C hl 3 rfl dL_law_850 rfl ?_
        refine z_iconst C (v := 1) dL_law_851 (by decide) ?_
        refine z_iadd C dL_law_852 ?_
        refine z_sld C hX hbl hb I g255 dL_law_853 ?_
        obtain ⟨g260, h⟩ := zd_some h
        obtain ⟨r261, S262, h263, h⟩ := zcs h
        refine z_callVi C I (tX8_runs _ D tc b _ h263) zyX8_runs zyvX8_runs zc8 g260 zq_931 (st := [zi r257]) rfl rfl (by decide) hcs hl.1 (Nat.le_of_ble_eq_true rfl) dL_law_854 (fun H locs I => ?_)
        refine z_icmp_eq C 1054 dL_law_857 (by decide) (fun c264 => ?_) (fun c264 => ?_)
        · have h := zit c264 h
          refine z_iinc C hl 3 (v := x3 + 6) rfl dL_law_1054 rfl (by decide) (fun v265 => [(3, zi v265), (0, zs b0), (1, zr x1), (2, zr x2)]) (fun _ => rfl) (fun v265 e266 ls hl => ?_)
          have h := znb e266 h
          refine z_goto C 18 dL_law_1057 (by decide) ?_
          exact ih _ _ _ _ _ _ _ h I (zL_sub hl [1, 2, 3, 0] rfl)
        · have h := zif c264 h
          refine z_iconst C (v := 0) dL_law_860 (by decide) ?_
          exact (z_01 h).elim
      have h := zif c254 h
      by_cases c267 : ((xs x3.toNatClampNeg) &&& 31 : Int32) = 18
      · have h := zit c267 h
        refine z_tsIn C (off := 829) 862 c267 dL_law_33 (by decide) (by decide) (by decide) (by decide) ?_
        refine z_aload_n C hl 1 rfl dL_law_862 rfl ?_
        refine z_aload_s C hl 0 rfl dL_law_863 rfl ?_
        refine z_iload_n C hl 3 rfl dL_law_864 rfl ?_
        refine z_iconst C (v := 1) dL_law_865 (by decide) ?_
        refine z_iadd C dL_law_866 ?_
        obtain ⟨g268, h⟩ := zd_some h
        refine z_sld C hX hbl hb I g268 dL_law_867 ?_
        refine z_aload_s C hl 0 rfl dL_law_868 rfl ?_
        refine z_iload_n C hl 3 rfl dL_law_869 rfl ?_
        refine z_iconst C (v := 2) dL_law_870 (by decide) ?_
        refine z_iadd C dL_law_871 ?_
        obtain ⟨g269, h⟩ := zd_some h
        refine z_sld C hX hbl hb I g269 dL_law_872 ?_
        refine z_aload_s C hl 0 rfl dL_law_873 rfl ?_
        refine z_iload_n C hl 3 rfl dL_law_874 rfl ?_
        refine z_iconst C (v := 3) dL_law_875 (by decide) ?_
        refine z_iadd C dL_law_876 ?_
        obtain ⟨g270, h⟩ := zd_some h
        refine z_sld C hX hbl hb I g270 dL_law_877 ?_
        obtain ⟨g271, h⟩ := zd_some h
        obtain ⟨r272, S273, h274, h⟩ := zcs h
        refine z_callVl C I (tX7_chance _ D tc b _ h274) zyX7_chance zyvX7_chance zc7 g271 zq_543 (st := []) rfl rfl (by decide) hcs hl.1 (Nat.le_of_ble_eq_true rfl) dL_law_878 (fun H locs I => ?_)
        refine z_aload_n C hl 2 rfl dL_law_881 rfl ?_
        refine z_aload_s C hl 0 rfl dL_law_882 rfl ?_
        refine z_iload_n C hl 3 rfl dL_law_883 rfl ?_
        refine z_iconst C (v := 1) dL_law_884 (by decide) ?_
        refine z_iadd C dL_law_885 ?_
        refine z_sld C hX hbl hb I g268 dL_law_886 ?_
        refine z_aload_s C hl 0 rfl dL_law_887 rfl ?_
        refine z_iload_n C hl 3 rfl dL_law_888 rfl ?_
        refine z_iconst C (v := 2) dL_law_889 (by decide) ?_
        refine z_iadd C dL_law_890 ?_
        refine z_sld C hX hbl hb I g269 dL_law_891 ?_
        refine z_aload_s C hl 0 rfl dL_law_892 rfl ?_
        refine z_iload_n C hl 3 rfl dL_law_893 rfl ?_
        refine z_iconst C (v := 3) dL_law_894 (by decide) ?_
        refine z_iadd C dL_law_895 ?_
        refine z_sld C hX hbl hb I g270 dL_law_896 ?_
        obtain ⟨g275, h⟩ := zd_some h
        obtain ⟨r276, S277, h278, h⟩ := zcs h
        refine z_callVl C I (tX8_chance _ D tc b _ h278) zyX8_chance zyvX8_chance zc8 g275 zq_936 (st := [zl r272]) rfl rfl (by decide) hcs hl.1 (Nat.le_of_ble_eq_true rfl) dL_law_897 (fun H locs I => ?_)
        refine z_lcmp C dL_law_900 ?_
        refine z_if_eq C 1054 dL_law_901 (by decide) (fun c279 => ?_) (fun c279 => ?_)
        · have h := zit c279 h
          refine z_iinc C hl 3 (v := x3 + 6) rfl dL_law_1054 rfl (by decide) (fun v280 => [(3, zi v280), (0, zs b0), (1, zr x1), (2, zr x2)]) (fun _ => rfl) (fun v280 e281 ls hl => ?_)
          have h := znb e281 h
          refine z_goto C 18 dL_law_1057 (by decide) ?_
          exact ih _ _ _ _ _ _ _ h I (zL_sub hl [1, 2, 3, 0] rfl)
        · have h := zif c279 h
          refine z_iconst C (v := 0) dL_law_904 (by decide) ?_
          exact (z_01 h).elim
      have h := zif c267 h
      by_cases c282 : ((xs x3.toNatClampNeg) &&& 31 : Int32) = 19
      · have h := zit c282 h
        refine z_tsIn C (off := 873) 906 c282 dL_law_33 (by decide) (by decide) (by decide) (by decide) ?_
        refine z_aload_n C hl 1 rfl dL_law_906 rfl ?_
        refine z_aload_s C hl 0 rfl dL_law_907 rfl ?_
        refine z_iload_n C hl 3 rfl dL_law_908 rfl ?_
        refine z_iconst C (v := 1) dL_law_909 (by decide) ?_
        refine z_iadd C dL_law_910 ?_
        obtain ⟨g283, h⟩ := zd_some h
        refine z_sld C hX hbl hb I g283 dL_law_911 ?_
        obtain ⟨g284, h⟩ := zd_some h
        obtain ⟨r285, S286, h287, h⟩ := zcs h
        refine z_callVi C I (tX7_kind _ D tc b _ h287) zyX7_kind zyvX7_kind zc7 g284 zq_555 (st := []) rfl rfl (by decide) hcs hl.1 (Nat.le_of_ble_eq_true rfl) dL_law_912 (fun H locs I => ?_)
        refine z_aload_n C hl 2 rfl dL_law_915 rfl ?_
        refine z_aload_s C hl 0 rfl dL_law_916 rfl ?_
        refine z_iload_n C hl 3 rfl dL_law_917 rfl ?_
        refine z_iconst C (v := 1) dL_law_918 (by decide) ?_
        refine z_iadd C dL_law_919 ?_
        refine z_sld C hX hbl hb I g283 dL_law_920 ?_
        obtain ⟨g288, h⟩ := zd_some h
        obtain ⟨r289, S290, h291, h⟩ := zcs h
        refine z_callVi C I (tX8_kind _ D tc b _ h291) zyX8_kind zyvX8_kind zc8 g288 zq_945 (st := [zi r285]) rfl rfl (by decide) hcs hl.1 (Nat.le_of_ble_eq_true rfl) dL_law_921 (fun H locs I => ?_)
        refine z_icmp_eq C 1054 dL_law_924 (by decide) (fun c292 => ?_) (fun c292 => ?_)
        · have h := zit c292 h
          refine z_iinc C hl 3 (v := x3 + 6) rfl dL_law_1054 rfl (by decide) (fun v293 => [(3, zi v293), (0, zs b0), (1, zr x1), (2, zr x2)]) (fun _ => rfl) (fun v293 e294 ls hl => ?_)
          have h := znb e294 h
          refine z_goto C 18 dL_law_1057 (by decide) ?_
          exact ih _ _ _ _ _ _ _ h I (zL_sub hl [1, 2, 3, 0] rfl)
        · have h := zif c292 h
          refine z_iconst C (v := 0) dL_law_927 (by decide) ?_
          exact (z_01 h).elim
      have h := zif c282 h
      by_cases c295 : ((xs x3.toNatClampNeg) &&& 31 : Int32) = 20
      · have h := zit c295 h
        refine z_tsIn C (off := 896) 929 c295 dL_law_33 (by decide) (by decide) (by decide) (by decide) ?_
        refine z_aload_n C hl 1 rfl dL_law_929 rfl ?_
        refine z_aload_s C hl 0 rfl dL_law_930 rfl ?_
        refine z_iload_n C hl 3 rfl dL_law_931 rfl ?_
        refine z_iconst C (v := 1) dL_law_932 (by decide) ?_
        refine z_iadd C dL_law_933 ?_
        obtain ⟨g296, h⟩ := zd_some h
        refine z_sld C hX hbl hb I g296 dL_law_934 ?_
        refine z_aload_s C hl 0 rfl dL_law_935 rfl ?_
        refine z_iload_n C hl 3 rfl dL_law_936 rfl ?_
        refine z_iconst C (v := 2) dL_law_937 (by decide) ?_
        refine z_iadd C dL_law_938 ?_
        obtain ⟨g297, h⟩ := zd_some h
        refine z_sld C hX hbl hb I g297 dL_law_939 ?_
        obtain ⟨g298, h⟩ := zd_some h
        obtain ⟨r299, S300, h301, h⟩ := zcs h
        refine z_callVi C I (tX7_as _ D tc b _ h301) zyX7_as zyvX7_as zc7 g298 zq_563 (st := []) rfl rfl (by decide) hcs hl.1 (Nat.le_of_ble_eq_true rfl) dL_law_940 (fun H locs I => ?_)
        refine z_aload_n C hl 2 rfl dL_law_943 rfl ?_
        refine z_aload_s C hl 0 rfl dL_law_944 rfl ?_
        refine z_iload_n C hl 3 rfl dL_law_945 rfl ?_
        refine z_iconst C (v := 1) dL_law_946 (by decide) ?_
        refine z_iadd C dL_law_947 ?_
        refine z_sld C hX hbl hb I g296 dL_law_948 ?_
        refine z_aload_s C hl 0 rfl dL_law_949 rfl ?_
        refine z_iload_n C hl 3 rfl dL_law_950 rfl ?_
        refine z_iconst C (v := 2) dL_law_951 (by decide) ?_
        refine z_iadd C dL_law_952 ?_
        refine z_sld C hX hbl hb I g297 dL_law_953 ?_
        obtain ⟨g302, h⟩ := zd_some h
        obtain ⟨r303, S304, h305, h⟩ := zcs h
        refine z_callVi C I (tX8_as _ D tc b _ h305) zyX8_as zyvX8_as zc8 g302 zq_953 (st := [zi r299]) rfl rfl (by decide) hcs hl.1 (Nat.le_of_ble_eq_true rfl) dL_law_954 (fun H locs I => ?_)
        refine z_icmp_eq C 1054 dL_law_957 (by decide) (fun c306 => ?_) (fun c306 => ?_)
        · have h := zit c306 h
          refine z_iinc C hl 3 (v := x3 + 6) rfl dL_law_1054 rfl (by decide) (fun v307 => [(3, zi v307), (0, zs b0), (1, zr x1), (2, zr x2)]) (fun _ => rfl) (fun v307 e308 ls hl => ?_)
          have h := znb e308 h
          refine z_goto C 18 dL_law_1057 (by decide) ?_
          exact ih _ _ _ _ _ _ _ h I (zL_sub hl [1, 2, 3, 0] rfl)
        · have h := zif c306 h
          refine z_iconst C (v := 0) dL_law_960 (by decide) ?_
          exact (z_01 h).elim
      have h := zif c295 h
      by_cases c309 : ((xs x3.toNatClampNeg) &&& 31 : Int32) = 21
      · have h := zit c309 h
        refine z_tsIn C (off := 929) 962 c309 dL_law_33 (by decide) (by decide) (by decide) (by decide) ?_
        refine z_aload_n C hl 1 rfl dL_law_962 rfl ?_
        refine z_aload_s C hl 0 rfl dL_law_963 rfl ?_
        refine z_iload_n C hl 3 rfl dL_law_964 rfl ?_
        refine z_iconst C (v := 1) dL_law_965 (by decide) ?_
        refine z_iadd C dL_law_966 ?_
        obtain ⟨g310, h⟩ := zd_some h
        refine z_sld C hX hbl hb I g310 dL_law_967 ?_
        refine z_aload_s C hl 0 rfl dL_law_968 rfl ?_
        refine z_iload_n C hl 3 rfl dL_law_969 rfl ?_
        refine z_iconst C (v := 2) dL_law_970 (by decide) ?_
        refine z_iadd C dL_law_971 ?_
        obtain ⟨g311, h⟩ := zd_some h
        refine z_sld C hX hbl hb I g311 dL_law_972 ?_
        obtain ⟨g312, h⟩ := zd_some h
        obtain ⟨r313, S314, h315, h⟩ := zcs h
        refine z_callVi C I (tX7_ask _ D tc b _ h315) zyX7_ask zyvX7_ask zc7 g312 zq_571 (st := []) rfl rfl (by decide) hcs hl.1 (Nat.le_of_ble_eq_true rfl) dL_law_973 (fun H locs I => ?_)
        refine z_aload_n C hl 2 rfl dL_law_976 rfl ?_
        refine z_aload_s C hl 0 rfl dL_law_977 rfl ?_
        refine z_iload_n C hl 3 rfl dL_law_978 rfl ?_
        refine z_iconst C (v := 1) dL_law_979 (by decide) ?_
        refine z_iadd C dL_law_980 ?_
        refine z_sld C hX hbl hb I g310 dL_law_981 ?_
        refine z_aload_s C hl 0 rfl dL_law_982 rfl ?_
        refine z_iload_n C hl 3 rfl dL_law_983 rfl ?_
        refine z_iconst C (v := 2) dL_law_984 (by decide) ?_
        refine z_iadd C dL_law_985 ?_
        refine z_sld C hX hbl hb I g311 dL_law_986 ?_
        obtain ⟨g316, h⟩ := zd_some h
        obtain ⟨r317, S318, h319, h⟩ := zcs h
        refine z_callVi C I (tX8_ask _ D tc b _ h319) zyX8_ask zyvX8_ask zc8 g316 zq_957 (st := [zi r313]) rfl rfl (by decide) hcs hl.1 (Nat.le_of_ble_eq_true rfl) dL_law_987 (fun H locs I => ?_)
        refine z_icmp_eq C 1054 dL_law_990 (by decide) (fun c320 => ?_) (fun c320 => ?_)
        · have h := zit c320 h
          refine z_iinc C hl 3 (v := x3 + 6) rfl dL_law_1054 rfl (by decide) (fun v321 => [(3, zi v321), (0, zs b0), (1, zr x1), (2, zr x2)]) (fun _ => rfl) (fun v321 e322 ls hl => ?_)
          have h := znb e322 h
          refine z_goto C 18 dL_law_1057 (by decide) ?_
          exact ih _ _ _ _ _ _ _ h I (zL_sub hl [1, 2, 3, 0] rfl)
        · have h := zif c320 h
          refine z_iconst C (v := 0) dL_law_993 (by decide) ?_
          exact (z_01 h).elim
      have h := zif c309 h
      by_cases c323 : ((xs x3.toNatClampNeg) &&& 31 : Int32) = 22
      · have h := zit c323 h
        refine z_tsIn C (off := 962) 995 c323 dL_law_33 (by decide) (by decide) (by decide) (by decide) ?_
        refine z_aload_n C hl 1 rfl dL_law_995 rfl ?_
        refine z_aload_s C hl 0 rfl dL_law_996 rfl ?_
        refine z_iload_n C hl 3 rfl dL_law_997 rfl ?_
        refine z_iconst C (v := 1) dL_law_998 (by decide) ?_
        refine z_iadd C dL_law_999 ?_
        obtain ⟨g324, h⟩ := zd_some h
        refine z_sld C hX hbl hb I g324 dL_law_1000 ?_
        obtain ⟨g325, h⟩ := zd_some h
        obtain ⟨r326, S327, h328, h⟩ := zcs h
        refine z_callVi C I (tX7_trace _ D tc b _ h328) zyX7_trace zyvX7_trace zc7 g325 zq_621 (st := []) rfl rfl (by decide) hcs hl.1 (Nat.le_of_ble_eq_true rfl) dL_law_1001 (fun H locs I => ?_)
        refine z_aload_n C hl 2 rfl dL_law_1004 rfl ?_
        refine z_aload_s C hl 0 rfl dL_law_1005 rfl ?_
        refine z_iload_n C hl 3 rfl dL_law_1006 rfl ?_
        refine z_iconst C (v := 1) dL_law_1007 (by decide) ?_
        refine z_iadd C dL_law_1008 ?_
        refine z_sld C hX hbl hb I g324 dL_law_1009 ?_
        obtain ⟨g329, h⟩ := zd_some h
        obtain ⟨r330, S331, h332, h⟩ := zcs h
        refine z_callVi C I (tX8_trace _ D tc b _ h332) zyX8_trace zyvX8_trace zc8 g329 zq_973 (st := [zi r326]) rfl rfl (by decide) hcs hl.1 (Nat.le_of_ble_eq_true rfl) dL_law_1010 (fun H locs I => ?_)
        refine z_icmp_eq C 1054 dL_law_1013 (by decide) (fun c333 => ?_) (fun c333 => ?_)
        · have h := zit c333 h
          refine z_iinc C hl 3 (v := x3 + 6) rfl dL_law_1054 rfl (by decide) (fun v334 => [(3, zi v334), (0, zs b0), (1, zr x1), (2, zr x2)]) (fun _ => rfl) (fun v334 e335 ls hl => ?_)
          have h := znb e335 h
          refine z_goto C 18 dL_law_1057 (by decide) ?_
          exact ih _ _ _ _ _ _ _ h I (zL_sub hl [1, 2, 3, 0] rfl)
        · have h := zif c333 h
          refine z_iconst C (v := 0) dL_law_1016 (by decide) ?_
          exact (z_01 h).elim
      have h := zif c323 h
      by_cases c336 : ((xs x3.toNatClampNeg) &&& 31 : Int32) = 23
      · have h := zit c336 h
        refine z_tsIn C (off := 985) 1018 c336 dL_law_33 (by decide) (by decide) (by decide) (by decide) ?_
        refine z_aload_n C hl 1 rfl dL_law_1018 rfl ?_
        refine z_aload_s C hl 0 rfl dL_law_1019 rfl ?_
        refine z_iload_n C hl 3 rfl dL_law_1020 rfl ?_
        refine z_iconst C (v := 1) dL_law_1021 (by decide) ?_
        refine z_iadd C dL_law_1022 ?_
        obtain ⟨g337, h⟩ := zd_some h
        refine z_sld C hX hbl hb I g337 dL_law_1023 ?_
        obtain ⟨g338, h⟩ := zd_some h
        obtain ⟨r339, S340, h341, h⟩ := zcs h
        refine z_callVi C I (tX7_count _ D tc b _ h341) zyX7_count zyvX7_count zc7 g338 zq_630 (st := []) rfl rfl (by decide) hcs hl.1 (Nat.le_of_ble_eq_true rfl) dL_law_1024 (fun H locs I => ?_)
        refine z_aload_n C hl 2 rfl dL_law_1027 rfl ?_
        refine z_aload_s C hl 0 rfl dL_law_1028 rfl ?_
        refine z_iload_n C hl 3 rfl dL_law_1029 rfl ?_
        refine z_iconst C (v := 1) dL_law_1030 (by decide) ?_
        refine z_iadd C dL_law_1031 ?_
        refine z_sld C hX hbl hb I g337 dL_law_1032 ?_
        obtain ⟨g342, h⟩ := zd_some h
        obtain ⟨r343, S344, h345, h⟩ := zcs h
        refine z_callVi C I (tX8_count _ D tc b _ h345) zyX8_count zyvX8_count zc8 g342 zq_977 (st := [zi r339]) rfl rfl (by decide) hcs hl.1 (Nat.le_of_ble_eq_true rfl) dL_law_1033 (fun H locs I => ?_)
        refine z_icmp_eq C 1054 dL_law_1036 (by decide) (fun c346 => ?_) (fun c346 => ?_)
        · have h := zit c346 h
          refine z_iinc C hl 3 (v := x3 + 6) rfl dL_law_1054 rfl (by decide) (fun v347 => [(3, zi v347), (0, zs b0), (1, zr x1), (2, zr x2)]) (fun _ => rfl) (fun v347 e348 ls hl => ?_)
          have h := znb e348 h
          refine z_goto C 18 dL_law_1057 (by decide) ?_
          exact ih _ _ _ _ _ _ _ h I (zL_sub hl [1, 2, 3, 0] rfl)
        · have h := zif c346 h
          refine z_iconst C (v := 0) dL_law_1039 (by decide) ?_
          exact (z_01 h).elim
      have h := zif c336 h
      by_cases c349 : ((xs x3.toNatClampNeg) &&& 31 : Int32) = 24
      · have h := zit c349 h
        refine z_tsIn C (off := 1008) 1041 c349 dL_law_33 (by decide) (by decide) (by decide) (by decide) ?_
        refine z_aload_n C hl 1 rfl dL_law_1041 rfl ?_
        obtain ⟨g350, h⟩ := zd_some h
        obtain ⟨r351, S352, h353, h⟩ := zcs h
        refine z_callVi C I (tX7_status _ D tc b _ h353) zyX7_status zyvX7_status zc7 g350 zq_646 (st := []) rfl rfl (by decide) hcs hl.1 (Nat.le_of_ble_eq_true rfl) dL_law_1042 (fun H locs I => ?_)
        refine z_aload_n C hl 2 rfl dL_law_1045 rfl ?_
        obtain ⟨g354, h⟩ := zd_some h
        obtain ⟨r355, S356, h357, h⟩ := zcs h
        refine z_callVi C I (tX8_status _ D tc b _ h357) zyX8_status zyvX8_status zc8 g354 zq_981 (st := [zi r351]) rfl rfl (by decide) hcs hl.1 (Nat.le_of_ble_eq_true rfl) dL_law_1046 (fun H locs I => ?_)
        refine z_icmp_eq C 1054 dL_law_1049 (by decide) (fun c358 => ?_) (fun c358 => ?_)
        · have h := zit c358 h
          refine z_iinc C hl 3 (v := x3 + 6) rfl dL_law_1054 rfl (by decide) (fun v359 => [(3, zi v359), (0, zs b0), (1, zr x1), (2, zr x2)]) (fun _ => rfl) (fun v359 e360 ls hl => ?_)
          have h := znb e360 h
          refine z_goto C 18 dL_law_1057 (by decide) ?_
          exact ih _ _ _ _ _ _ _ h I (zL_sub hl [1, 2, 3, 0] rfl)
        · have h := zif c358 h
          refine z_iconst C (v := 0) dL_law_1052 (by decide) ?_
          exact (z_01 h).elim
      have h := zif c349 h
      refine z_tsOut C 1054 dL_law_33 (by have t_c3 : (((xs x3.toNatClampNeg) &&& 31 : Int32)).toInt ≠ 0 := fun q => c3 (Int32.toInt_inj.mp (q.trans (by decide))); have t_c18 : (((xs x3.toNatClampNeg) &&& 31 : Int32)).toInt ≠ 1 := fun q => c18 (Int32.toInt_inj.mp (q.trans (by decide))); have t_c33 : (((xs x3.toNatClampNeg) &&& 31 : Int32)).toInt ≠ 2 := fun q => c33 (Int32.toInt_inj.mp (q.trans (by decide))); have t_c50 : (((xs x3.toNatClampNeg) &&& 31 : Int32)).toInt ≠ 3 := fun q => c50 (Int32.toInt_inj.mp (q.trans (by decide))); have t_c63 : (((xs x3.toNatClampNeg) &&& 31 : Int32)).toInt ≠ 4 := fun q => c63 (Int32.toInt_inj.mp (q.trans (by decide))); have t_c78 : (((xs x3.toNatClampNeg) &&& 31 : Int32)).toInt ≠ 5 := fun q => c78 (Int32.toInt_inj.mp (q.trans (by decide))); have t_c93 : (((xs x3.toNatClampNeg) &&& 31 : Int32)).toInt ≠ 6 := fun q => c93 (Int32.toInt_inj.mp (q.trans (by decide))); have t_c108 : (((xs x3.toNatClampNeg) &&& 31 : Int32)).toInt ≠ 7 := fun q => c108 (Int32.toInt_inj.mp (q.trans (by decide))); have t_c123 : (((xs x3.toNatClampNeg) &&& 31 : Int32)).toInt ≠ 8 := fun q => c123 (Int32.toInt_inj.mp (q.trans (by decide))); have t_c138 : (((xs x3.toNatClampNeg) &&& 31 : Int32)).toInt ≠ 9 := fun q => c138 (Int32.toInt_inj.mp (q.trans (by decide))); have t_c152 : (((xs x3.toNatClampNeg) &&& 31 : Int32)).toInt ≠ 10 := fun q => c152 (Int32.toInt_inj.mp (q.trans (by decide))); have t_c166 : (((xs x3.toNatClampNeg) &&& 31 : Int32)).toInt ≠ 11 := fun q => c166 (Int32.toInt_inj.mp (q.trans (by decide))); have t_c180 : (((xs x3.toNatClampNeg) &&& 31 : Int32)).toInt ≠ 12 := fun q => c180 (Int32.toInt_inj.mp (q.trans (by decide))); have t_c195 : (((xs x3.toNatClampNeg) &&& 31 : Int32)).toInt ≠ 13 := fun q => c195 (Int32.toInt_inj.mp (q.trans (by decide))); have t_c211 : (((xs x3.toNatClampNeg) &&& 31 : Int32)).toInt ≠ 14 := fun q => c211 (Int32.toInt_inj.mp (q.trans (by decide))); have t_c224 : (((xs x3.toNatClampNeg) &&& 31 : Int32)).toInt ≠ 15 := fun q => c224 (Int32.toInt_inj.mp (q.trans (by decide))); have t_c241 : (((xs x3.toNatClampNeg) &&& 31 : Int32)).toInt ≠ 16 := fun q => c241 (Int32.toInt_inj.mp (q.trans (by decide))); have t_c254 : (((xs x3.toNatClampNeg) &&& 31 : Int32)).toInt ≠ 17 := fun q => c254 (Int32.toInt_inj.mp (q.trans (by decide))); have t_c267 : (((xs x3.toNatClampNeg) &&& 31 : Int32)).toInt ≠ 18 := fun q => c267 (Int32.toInt_inj.mp (q.trans (by decide))); have t_c282 : (((xs x3.toNatClampNeg) &&& 31 : Int32)).toInt ≠ 19 := fun q => c282 (Int32.toInt_inj.mp (q.trans (by decide))); have t_c295 : (((xs x3.toNatClampNeg) &&& 31 : Int32)).toInt ≠ 20 := fun q => c295 (Int32.toInt_inj.mp (q.trans (by decide))); have t_c309 : (((xs x3.toNatClampNeg) &&& 31 : Int32)).toInt ≠ 21 := fun q => c309 (Int32.toInt_inj.mp (q.trans (by decide))); have t_c323 : (((xs x3.toNatClampNeg) &&& 31 : Int32)).toInt ≠ 22 := fun q => c323 (Int32.toInt_inj.mp (q.trans (by decide))); have t_c336 : (((xs x3.toNatClampNeg) &&& 31 : Int32)).toInt ≠ 23 := fun q => c336 (Int32.toInt_inj.mp (q.trans (by decide))); have t_c349 : (((xs x3.toNatClampNeg) &&& 31 : Int32)).toInt ≠ 24 := fun q => c349 (Int32.toInt_inj.mp (q.trans (by decide))); omega) (by decide) ?_
      refine z_iinc C hl 3 (v := x3 + 6) rfl dL_law_1054 rfl (by decide) (fun v361 => [(3, zi v361), (0, zs b0), (1, zr x1), (2, zr x2)]) (fun _ => rfl) (fun v361 e362 ls hl => ?_)
      have h := znb e362 h
      refine z_goto C 18 dL_law_1057 (by decide) ?_
      exact ih _ _ _ _ _ _ _ h I (zL_sub hl [1, 2, 3, 0] rfl)

def fL (xs : Nat → Int32) (L : Nat) (S : zM) : Option (Int32 × zM) := zd (znk 0 17 0) <| zbd (znw S 0) fun S2 => zbd (0 + 1) fun n4 => zd (decide (¬ (nI 0) < 0)) <| zca (fX7_init n4 S2 (nI 0)) fun n7 S8 => zbd (nI 0) fun v10 => zd (znk n7 18 0) <| zbd (znw S8 n7) fun S13 => zbd (n7 + 1) fun n15 => zd (decide (¬ (nI n7) < 0)) <| zca (fX8_init n15 S13 (nI n7)) fun n18 S19 => zbd (nI n7) fun v21 => zbd (0) fun v23 => fL_18 xs L n18 (L + 1) S19 v10 v21 v23
theorem bL {p : Program} {l : Launch} {e : Env} {s : State} {m : MethodId} {below : List Frame} {meth : Method} {c : Code} {D : va_G} {tc : Nat → ClassId} {b b0 L : Nat} {xs : Nat → Int32} {S S' : zM} (C : zC p m c code 4 s #[Value.ref b0] R_law D tc) (hr : meth.sig.returnType = ret) (hk : meth.locks = false) (hb : b = s.heap.size) (hX : va_X b0 L xs s s.heap) (hbl : b0 < b) (h : fL xs L S = some (1, S')) (I : zI D tc b 0 S s s.heap []) (ls : Array Slot) (hl : zL b ls 4 [(0, zs b0)]) : W p l e room_1 s m #[Value.ref b0] below meth c s.heap [] 0 0 (lw_Z below #[Value.ref b0] s) (zG b m 0 ls []) := by
  rw [fL] at h
  obtain ⟨g1, h⟩ := zd_some h
  refine z_new C I 7 zc7 g1 zh7 zhd7 zq_12 zq_13 zq_1 (by decide) (by decide) dL_law_0 (fun S2 e3 H I => ?_)
  have h := znb e3 h
  obtain ⟨n4, e5⟩ : ∃ y, y = 0 + 1 := ⟨_, rfl⟩
  have h := znb e5 h
  rw [← e5] at I
  refine z_dup C dL_law_3 rfl ?_
  obtain ⟨g6, h⟩ := zd_some h
  obtain ⟨n7, S8, h9, h⟩ := zcs h
  refine z_callC C I (tX7_init _ D tc b _ h9) zyX7_init zq_15 rfl g6 zq_14 (st := [zr (nI 0)]) rfl rfl (by decide) ⟨(by decide), (by decide)⟩ hl.1 (Nat.le_of_ble_eq_true rfl) dL_law_4 (fun H locs I => ?_)
  refine z_astore_n C hl dL_law_7 rfl (by decide) (fun v10 => [(1, zr v10), (0, zs b0)]) (fun _ => rfl) (fun v10 e11 ls hl => ?_)
  have h := znb e11 h
  obtain ⟨g12, h⟩ := zd_some h
  refine z_new C I 8 zc8 g12 zh8 zhd8 zq_650 zq_651 zq_9 (by decide) (by decide) dL_law_8 (fun S13 e14 H I => ?_)
  have h := znb e14 h
  obtain ⟨n15, e16⟩ : ∃ y, y = n7 + 1 := ⟨_, rfl⟩
  have h := znb e16 h
  rw [← e16] at I
  refine z_dup C dL_law_11 rfl ?_
  obtain ⟨g17, h⟩ := zd_some h
  obtain ⟨n18, S19, h20, h⟩ := zcs h
  refine z_callC C I (tX8_init _ D tc b _ h20) zyX8_init zq_653 rfl g17 zq_652 (st := [zr (nI n7)]) rfl rfl (by decide) ⟨(by decide), (by decide)⟩ hl.1 (Nat.le_of_ble_eq_true rfl) dL_law_12 (fun H locs I => ?_)
  refine z_astore_n C hl dL_law_15 rfl (by decide) (fun v21 => [(2, zr v21), (1, zr v10), (0, zs b0)]) (fun _ => rfl) (fun v21 e22 ls hl => ?_)
  have h := znb e22 h
  refine z_iconst C (v := 0) dL_law_16 (by decide) ?_
  refine z_istore_n C hl dL_law_17 rfl (by decide) (fun v23 => [(3, zi v23), (2, zr v21), (1, zr v10), (0, zs b0)]) (fun _ => rfl) (fun v23 e24 ls hl => ?_)
  have h := znb e24 h
  exact bL_18 C hr hk hb hX hbl (by decide) (L + 1) _ _ _ _ _ _ _ h I (zL_sub hl [3, 2, 1, 0] rfl)

