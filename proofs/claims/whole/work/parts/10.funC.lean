def f_Jx4a65c_size_8abf5 (G n : Nat) (M : gaM) : Option (Int) := some (M 2 2)
def l_X0_clear_2 (G n : Nat) (o0 : Nat) : Nat → gaM → Int → Option (gaM)
  | 0, _, _ => none
  | F + 1, M, v1 => gg (ok v1) <| if v1 < 40 then (gg (ix v1 40) <| gB (ga_st M (10 * o0) v1.toNat (-1)) fun M3 => l_X0_clear_2 G n o0 F M3 (v1 + 1)) else (some M)
def f_X0_clear (G n : Nat) (M : gaM) (o0 : Nat) : Option (gaM) := gb (l_X0_clear_2 G n o0 G M 0) fun M1 => gB (ga_st M1 o0 3 0) fun M5 => gB (ga_st M5 o0 4 0) fun M6 => some M6
def f_X0_put (G n : Nat) (M : gaM) (o0 : Nat) (v1 : Int) (v2 : Int) (v3 : Int) (v4 : Int) : Option (gaM) := gg (ix v1 40) <| gB (ga_st M (10 * o0) v1.toNat v2) fun M1 => gB (ga_st M1 (10 * o0 + 1) v1.toNat v3) fun M3 => gB (ga_st M3 (10 * o0 + 2) v1.toNat v4) fun M4 => gB (ga_st M4 o0 3 ((M4 o0 3) + 1)) fun M5 => gB (ga_st M5 o0 4 ((M5 o0 4) + v4)) fun M6 => some M6
def f_X0_has (G n : Nat) (M : gaM) (o0 : Nat) (v1 : Int) : Option (Int) := gg (ix v1 40) <| gg (ok (M (10 * o0) v1.toNat)) <| if (M (10 * o0) v1.toNat) = (-1) then (some 0) else (some 1)
def f_X0_tell (G n : Nat) (M : gaM) (o0 : Nat) (v1 : Int) (v2 : Int) : Option (Int) := gb (f_X0_has G n M o0 v1) fun r1 => gg (ok r1) <| if r1 = 0 then (some (-1)) else (gg (ok v2) <| if v2 = 0 then (gg (ix v1 40) <| some (M (10 * o0) v1.toNat)) else (if v2 = 1 then (gg (ix v1 40) <| some (M (10 * o0 + 1) v1.toNat)) else (if v2 = 2 then (gg (ix v1 40) <| some (M (10 * o0 + 2) v1.toNat)) else (some (-1)))))
def f_X2_has (G n : Nat) (M : gaM) (v1 : Int) : Option (Int) := gg (ok v1) <| if 0 ≤ v1 then (gg (ok (M 1 0)) <| if v1 < (M 1 0) then (some 1) else (some 0)) else (some 0)
def l_X2_add_17 (G n : Nat) : Nat → gaM → Int → Int → Int → Option (gaM)
  | 0, _, _, _, _ => none
  | F + 1, M, v1, v2, v3 => gg (ok v3) <| if v3 < 300 then (gg (ix v2 4) <| gg (ix v3 300) <| gB (ga_st M (21 + v2.toNat) v3.toNat 500) fun M5 => gB (ga_st M5 (31 + v2.toNat) v3.toNat v1) fun M7 => l_X2_add_17 G n F M7 v1 v2 (v3 + 1)) else (some M)
def l_X2_add_52 (G n : Nat) : Nat → gaM → Int → Int → Option (gaM)
  | 0, _, _, _ => none
  | F + 1, M, v2, v3 => gg (ok v3) <| gg (ok v2) <| if v3 < v2 then (gg (ix v2 4) <| gg (ix v3 4) <| gB (ga_st M (11 + v2.toNat) v3.toNat 1) fun M12 => gB (ga_st M12 (11 + v3.toNat) v2.toNat 1) fun M14 => l_X2_add_52 G n F M14 v2 (v3 + 1)) else (some M)
def f_X2_add (G n : Nat) (M : gaM) (v1 : Int) : Option (Int × gaM) := gB (ga_st M 1 0 ((M 1 0) + 1)) fun M1 => gb (l_X2_add_17 G n G M1 v1 (M 1 0) 0) fun M2 => gb (l_X2_add_52 G n G M2 (M 1 0) 0) fun M8 => some ((M 1 0), M8)
def f_X2_carriage (G n : Nat) (M : gaM) (w1 : Nat) (v2 : Int) : Option (Int) := gg (ix (M w1 1) 4) <| gg (ix v2 4) <| some ((M w1 5) * (M (11 + (M w1 1).toNat) v2.toNat))
def l_X2_costOf_11 (G n : Nat) (w1 : Nat) (M : gaM) : Nat → Int → Int → Int → Int → Option (Int)
  | 0, _, _, _, _ => none
  | F + 1, v2, v3, v4, v5 => gg (ok v5) <| gg (ok (v3 + (M w1 2))) <| if v5 < (v3 + (M w1 2)) then (gg (ix v2 4) <| gg (ix v5 300) <| l_X2_costOf_11 G n w1 M F v2 v3 (v4 + (M (21 + v2.toNat) v5.toNat)) (v5 + 1)) else (some v4)
def f_X2_costOf (G n : Nat) (M : gaM) (w1 : Nat) (v2 : Int) (v3 : Int) : Option (Int) := gb (f_X2_carriage G n M w1 v2) fun r1 => gb (l_X2_costOf_11 G n w1 M G v2 v3 r1 v3) fun x4_2 => some x4_2
def l_X2_fits_3 (G n : Nat) (M : gaM) : Nat → Int → Int → Int → Int → Option (Int)
  | 0, _, _, _, _ => none
  | F + 1, v1, v2, v3, v4 => gg (ok v4) <| gg (ok (v2 + v3)) <| if v4 < (v2 + v3) then (gg (ix v1 4) <| gg (ix v4 300) <| gg (ok (M (31 + v1.toNat) v4.toNat)) <| if (M (31 + v1.toNat) v4.toNat) ≤ 0 then (some 0) else (l_X2_fits_3 G n M F v1 v2 v3 (v4 + 1))) else (some 1)
def f_X2_fits (G n : Nat) (M : gaM) (v1 : Int) (v2 : Int) (v3 : Int) : Option (Int) := l_X2_fits_3 G n M G v1 v2 v3 v2
def l_X2_take_3 (G n : Nat) : Nat → gaM → Int → Int → Int → Int → Option (gaM)
  | 0, _, _, _, _, _ => none
  | F + 1, M, v1, v2, v3, v4 => gg (ok v4) <| gg (ok (v2 + v3)) <| if v4 < (v2 + v3) then (gg (ix v1 4) <| gg (ix v4 300) <| gB (ga_st M (31 + v1.toNat) v4.toNat ((M (31 + v1.toNat) v4.toNat) - 1)) fun M6 => l_X2_take_3 G n F M6 v1 v2 v3 (v4 + 1)) else (some M)
def f_X2_take (G n : Nat) (M : gaM) (v1 : Int) (v2 : Int) (v3 : Int) : Option (gaM) := gb (l_X2_take_3 G n G M v1 v2 v3 v2) fun M1 => some M1
def l_X2_giveBack_3 (G n : Nat) : Nat → gaM → Int → Int → Int → Int → Option (gaM)
  | 0, _, _, _, _, _ => none
  | F + 1, M, v1, v2, v3, v4 => gg (ok v4) <| gg (ok (v2 + v3)) <| if v4 < (v2 + v3) then (gg (ix v1 4) <| gg (ix v4 300) <| gB (ga_st M (31 + v1.toNat) v4.toNat ((M (31 + v1.toNat) v4.toNat) + 1)) fun M6 => l_X2_giveBack_3 G n F M6 v1 v2 v3 (v4 + 1)) else (some M)
def f_X2_giveBack (G n : Nat) (M : gaM) (v1 : Int) (v2 : Int) (v3 : Int) : Option (gaM) := gb (l_X2_giveBack_3 G n G M v1 v2 v3 v2) fun M1 => some M1
def f_X4_tell (G n : Nat) (M : gaM) (w0 : Nat) (v1 : Int) : Option (Int) := gg (ok v1) <| if v1 = 0 then (some (M w0 6)) else (if v1 = 1 then (some (M w0 7)) else (if v1 = 2 then (some (M w0 8)) else (if v1 = 3 then (some (M w0 9)) else (if v1 = 4 then (some (M w0 0)) else (if v1 = 5 then (some (M w0 1)) else (if v1 = 6 then (some (M w0 2)) else (if v1 = 7 then (some (M w0 3)) else (if v1 = 8 then (some (M w0 4)) else (if v1 = 9 then (some (M w0 5)) else (some (-1)))))))))))
def l_X1_fillRow_47 (G n : Nat) : Nat → gaM → Int → Int → Nat → Nat → Nat → Int → Int → Int → Int → Option (gaM)
  | 0, _, _, _, _, _, _, _, _, _, _ => none
  | F + 1, M, v4, v5, z6, z7, z8, v9, v10, v11, v12 => gg (ok v12) <| gg (ok v4) <| if v12 < v4 then (gg (ix v12 300) <| gg (ok ((v12 - v9) + 1)) <| gg (ok (M 6 2)) <| gb (if (M 6 2) < ((v12 - v9) + 1) then (gg (ix (((v12 - v9) + 1) - 1) 300) <| some ((v10 + (M z6 v12.toNat)) - (M z6 (((v12 - v9) + 1) - 1).toNat))) else (some (v10 + (M z6 v12.toNat)))) fun x10_9 => gg (ok v5) <| gb (if v5 = 0 then (gg (ok (M z7 v12.toNat)) <| if 0 < (M z7 v12.toNat) then (some (v11 + 1)) else (some 0)) else (some (v11 + 1))) fun s0_12 => gb (if (M 6 2) ≤ ((v12 - v9) + 1) then (gg (ok s0_12) <| gg (ok v9) <| gb (if v9 ≤ s0_12 then (some x10_9) else (some (-1))) fun s0_17 => gg (ix ((v12 - v9) + 1) 300) <| gB (ga_st M z8 ((v12 - v9) + 1).toNat s0_17) fun M18 => some M18) else (some M)) fun M14 => l_X1_fillRow_47 G n F M14 v4 v5 z6 z7 z8 v9 x10_9 s0_12 (v12 + 1)) else (some M)
def f_X1_fillRow (G n : Nat) (M : gaM) (w2 : Nat) (v3 : Int) (v4 : Int) (v5 : Int) : Option (gaM) := gg (ix v3 4) <| gb (f_X2_carriage G n M w2 v3) fun r2 => gb (l_X1_fillRow_47 G n G M v4 v5 (21 + v3.toNat) (31 + v3.toNat) (61 + v3.toNat) (M w2 2) r2 0 (M 6 2)) fun M3 => some M3
def l_X1_fill_27 (G n : Nat) (w2 : Nat) : Nat → gaM → Int → Int → Int → Option (gaM)
  | 0, _, _, _, _ => none
  | F + 1, M, v4, v5, v6 => gg (ok v6) <| gg (ok (M 6 1)) <| if v6 < (M 6 1) then (gb (f_X1_fillRow G n M w2 v6 v4 v5) fun M7 => l_X1_fill_27 G n w2 F M7 v4 v5 (v6 + 1)) else (some M)
def f_X1_fill (G n : Nat) (M : gaM) (w2 : Nat) (v3 : Int) (v4 : Int) (v5 : Int) : Option (gaM) := gB (ga_st M 6 1 (M 1 0)) fun M1 => gB (ga_st M1 6 2 v3) fun M2 => gB (ga_st M2 6 3 (v4 - (M2 w2 2))) fun M3 => gb (l_X1_fill_27 G n w2 G M3 v4 v5 0) fun M4 => some M4
def l_X1_pickAt_2 (G n : Nat) : Nat → gaM → Int → Int → Option (gaM)
  | 0, _, _, _ => none
  | F + 1, M, v1, v2 => gg (ok v2) <| gg (ok (M 6 1)) <| if v2 < (M 6 1) then (gg (ix v2 4) <| gg (ix v1 300) <| gg (ok (M (61 + v2.toNat) v1.toNat)) <| gb (if (M (61 + v2.toNat) v1.toNat) = (-1) then (some M) else (gg (ok (M 6 6)) <| if (M 6 6) = (-1) then (gB (ga_st M 6 4 v2) fun M9 => gB (ga_st M9 6 5 v1) fun M10 => gB (ga_st M10 6 6 (M (61 + v2.toNat) v1.toNat)) fun M11 => some M11) else (if (M (61 + v2.toNat) v1.toNat) < (M 6 6) then (gB (ga_st M 6 4 v2) fun M12 => gB (ga_st M12 6 5 v1) fun M13 => gB (ga_st M13 6 6 (M (61 + v2.toNat) v1.toNat)) fun M14 => some M14) else (some M)))) fun M7 => l_X1_pickAt_2 G n F M7 v1 (v2 + 1)) else (some M)
def f_X1_pickAt (G n : Nat) (M : gaM) (v1 : Int) : Option (gaM) := gb (l_X1_pickAt_2 G n G M v1 0) fun M1 => some M1
def l_X1_pickCheapest_10 (G n : Nat) : Nat → gaM → Int → Option (gaM)
  | 0, _, _ => none
  | F + 1, M, v1 => gg (ok v1) <| gg (ok (M 6 3)) <| if v1 ≤ (M 6 3) then (gb (f_X1_pickAt G n M v1) fun M5 => l_X1_pickCheapest_10 G n F M5 (v1 + 1)) else (some M)
def f_X1_pickCheapest (G n : Nat) (M : gaM) : Option (gaM) := gB (ga_st M 6 6 (-1)) fun M1 => gb (l_X1_pickCheapest_10 G n G M1 (M1 6 2)) fun M2 => some M2
def l_X1_pickSoonest_10 (G n : Nat) : Nat → gaM → Int → Option (gaM)
  | 0, _, _ => none
  | F + 1, M, v1 => gg (ok v1) <| gg (ok (M 6 3)) <| if v1 ≤ (M 6 3) then (gg (ok (M 6 6)) <| if (M 6 6) = (-1) then (gb (f_X1_pickAt G n M v1) fun M6 => l_X1_pickSoonest_10 G n F M6 (v1 + 1)) else (some M)) else (some M)
def f_X1_pickSoonest (G n : Nat) (M : gaM) : Option (gaM) := gB (ga_st M 6 6 (-1)) fun M1 => gb (l_X1_pickSoonest_10 G n G M1 (M1 6 2)) fun M2 => some M2
def f_X3_clear (G n : Nat) (M : gaM) : Option (gaM) := gB (ga_st M 7 5 0) fun M1 => some M1
def l_X3_keep_47 (G n : Nat) : Nat → gaM → Int → Int → Int → Int → Int → Option (gaM × Int)
  | 0, _, _, _, _, _, _ => none
  | F + 1, M, v1, v2, v3, v4, v5 => gg (ok v5) <| if 0 < v5 then (gg (ix v1 3) <| gg (ix (v5 - 1) 47) <| gg (ok (M (79 + v1.toNat) (v5 - 1).toNat)) <| gg (ok v4) <| if v4 < (M (79 + v1.toNat) (v5 - 1).toNat) then (gg (ix v5 47) <| gB (ga_st M (71 + v1.toNat) v5.toNat (M (71 + v1.toNat) (v5 - 1).toNat)) fun M12 => gB (ga_st M12 (75 + v1.toNat) v5.toNat (M12 (75 + v1.toNat) (v5 - 1).toNat)) fun M14 => gB (ga_st M14 (79 + v1.toNat) v5.toNat (M14 (79 + v1.toNat) (v5 - 1).toNat)) fun M15 => l_X3_keep_47 G n F M15 v1 v2 v3 v4 (v5 + (-1))) else (some (M, v5))) else (some (M, v5))
def f_X3_keep (G n : Nat) (M : gaM) (v1 : Int) (v2 : Int) (v3 : Int) (v4 : Int) : Option (gaM) := gg (ix v1 3) <| gg (ok (M 82 v1.toNat)) <| if (M 82 v1.toNat) = 47 then (gg (ix 46 47) <| gg (ok v4) <| gg (ok (M (79 + v1.toNat) (46 : Int).toNat)) <| if (M (79 + v1.toNat) (46 : Int).toNat) ≤ v4 then (some M) else (gb2 (l_X3_keep_47 G n G M v1 v2 v3 v4 46) fun M6 x5_6 => gg (ix x5_6 47) <| gB (ga_st M6 (71 + v1.toNat) x5_6.toNat v2) fun M16 => gB (ga_st M16 (75 + v1.toNat) x5_6.toNat v3) fun M18 => gB (ga_st M18 (79 + v1.toNat) x5_6.toNat v4) fun M19 => some M19)) else (gB (ga_st M 82 v1.toNat ((M 82 v1.toNat) + 1)) fun M20 => gb2 (l_X3_keep_47 G n G M20 v1 v2 v3 v4 (M 82 v1.toNat)) fun M21 x5_21 => gg (ix x5_21 47) <| gB (ga_st M21 (71 + v1.toNat) x5_21.toNat v2) fun M31 => gB (ga_st M31 (75 + v1.toNat) x5_21.toNat v3) fun M33 => gB (ga_st M33 (79 + v1.toNat) x5_21.toNat v4) fun M34 => some M34)
def l_X3_add_59 (G n : Nat) : Nat → gaM → Int → Int → Int → Option (gaM)
  | 0, _, _, _, _ => none
  | F + 1, M, v3, v4, v5 => gg (ok v5) <| gg (ok (M 6 3)) <| if v5 ≤ (M 6 3) then (gg (ix v4 4) <| gg (ix v5 300) <| gg (ok (M (61 + v4.toNat) v5.toNat)) <| gb (if (M (61 + v4.toNat) v5.toNat) = (-1) then (some M) else (gb (f_X3_keep G n M v3 v4 v5 (M (61 + v4.toNat) v5.toNat)) fun M16 => some M16)) fun M15 => l_X3_add_59 G n F M15 v3 v4 (v5 + 1)) else (some M)
def l_X3_add_44 (G n : Nat) : Nat → gaM → Int → Int → Option (gaM)
  | 0, _, _, _ => none
  | F + 1, M, v3, v4 => gg (ok v4) <| gg (ok (M 6 1)) <| if v4 < (M 6 1) then (gb (l_X3_add_59 G n G M v3 v4 (M 6 2)) fun M9 => l_X3_add_44 G n F M9 v3 (v4 + 1)) else (some M)
def f_X3_add (G n : Nat) (M : gaM) (w1 : Nat) : Option (gaM) := gg (ok (M 7 5)) <| if 3 ≤ (M 7 5) then (some M) else (gB (ga_st M 7 5 ((M 7 5) + 1)) fun M2 => gg (ix (M 7 5) 3) <| gB (ga_st M2 82 (M 7 5).toNat 0) fun M3 => gB (ga_st M3 83 (M 7 5).toNat (M3 w1 2)) fun M5 => gb (l_X3_add_44 G n G M5 (M 7 5) 0) fun M6 => some M6)
def l_X3_cheapestFrom_4 (G n : Nat) (M : gaM) : Nat → Int → Int → Option (Int)
  | 0, _, _ => none
  | F + 1, v2, v3 => gg (ok v3) <| gg (ok (M 7 5)) <| if v3 < (M 7 5) then (gg (ix v3 3) <| gg (ix 0 47) <| l_X3_cheapestFrom_4 G n M F (v2 + (M (79 + v3.toNat) (0 : Int).toNat)) (v3 + 1)) else (some v2)
def f_X3_cheapestFrom (G n : Nat) (M : gaM) (v1 : Int) : Option (Int) := gb (l_X3_cheapestFrom_4 G n M G 0 v1) fun x2_1 => some x2_1
def l_X3_search_26 (rec : gaM → Int → Int → Int → Option (Int × gaM)) (G n : Nat) : Nat → gaM → Int → Int → Int → Int → Int → Option (Int × gaM)
  | 0, _, _, _, _, _, _ => none
  | F + 1, M, v2, v3, v5, v6, v7 => gg (ix v2 3) <| gg (ok v7) <| gg (ok (M 82 v2.toNat)) <| if v7 < (M 82 v2.toNat) then (gg (ix v7 47) <| gg (ok v5) <| if v5 = (-1) then (gb (f_X2_fits G n M (M (71 + v2.toNat) v7.toNat) (M (75 + v2.toNat) v7.toNat) (M 83 v2.toNat)) fun r9 => gg (ok r9) <| gb2 (if r9 = 0 then (some (M, v5)) else (gb (f_X2_take G n M (M (71 + v2.toNat) v7.toNat) (M (75 + v2.toNat) v7.toNat) (M 83 v2.toNat)) fun M12 => gb2 (rec M12 (v2 + 1) (v3 + (M (79 + v2.toNat) v7.toNat)) v5) fun r13 M13 => gb (f_X2_giveBack G n M13 (M (71 + v2.toNat) v7.toNat) (M (75 + v2.toNat) v7.toNat) (M13 83 v2.toNat)) fun M14 => some (M14, r13))) fun M11 x5_11 => l_X3_search_26 rec G n F M11 v2 v3 x5_11 v6 (v7 + 1)) else (gg (ok ((v3 + (M (79 + v2.toNat) v7.toNat)) + v6)) <| if v5 ≤ ((v3 + (M (79 + v2.toNat) v7.toNat)) + v6) then (some (v5, M)) else (gb (f_X2_fits G n M (M (71 + v2.toNat) v7.toNat) (M (75 + v2.toNat) v7.toNat) (M 83 v2.toNat)) fun r16 => gg (ok r16) <| gb2 (if r16 = 0 then (some (M, v5)) else (gb (f_X2_take G n M (M (71 + v2.toNat) v7.toNat) (M (75 + v2.toNat) v7.toNat) (M 83 v2.toNat)) fun M19 => gb2 (rec M19 (v2 + 1) (v3 + (M (79 + v2.toNat) v7.toNat)) v5) fun r20 M20 => gb (f_X2_giveBack G n M20 (M (71 + v2.toNat) v7.toNat) (M (75 + v2.toNat) v7.toNat) (M20 83 v2.toNat)) fun M21 => some (M21, r20))) fun M18 x5_18 => l_X3_search_26 rec G n F M18 v2 v3 x5_18 v6 (v7 + 1)))) else (some (v5, M))
def f_X3_search (G n : Nat) : Nat → gaM → Int → Int → Int → Option (Int × gaM)
  | 0, _, _, _, _ => none
  | d + 1, M, v2, v3, v4 => gg (ok v2) <| gg (ok (M 7 5)) <| if (M 7 5) ≤ v2 then (some (v3, M)) else (gb (f_X3_cheapestFrom G n M (v2 + 1)) fun r3 => l_X3_search_26 (f_X3_search G n d) G n G M v2 v3 v4 r3 0)
def l_X3_least_2 (G n : Nat) : Nat → gaM → Int → Option (Int × gaM)
  | 0, _, _ => none
  | F + 1, M, v2 => gg (ok v2) <| gg (ok (M 7 5)) <| if v2 < (M 7 5) then (gg (ix v2 3) <| gg (ok (M 82 v2.toNat)) <| if (M 82 v2.toNat) = 0 then (some ((-1), M)) else (l_X3_least_2 G n F M (v2 + 1))) else (gb2 (f_X3_search G n 5 M 0 0 (-1)) fun r5 M5 => some (r5, M5))
def f_X3_least (G n : Nat) (M : gaM) : Option (Int × gaM) := l_X3_least_2 G n G M 0
def f_X5_within (G n : Nat) (M : gaM) (v0 : Int) (v1 : Int) (v2 : Int) : Option (Int) := gg (ok v0) <| gg (ok v1) <| if v1 ≤ v0 then (gg (ok v2) <| if v0 ≤ v2 then (some 1) else (some 0)) else (some 0)
def f_X5_troubleOfPlace (G n : Nat) (M : gaM) (v1 : Int) : Option (Int) := gb (f_X5_within G n M v1 1 9) fun r1 => gg (ok r1) <| if r1 = 0 then (some 2) else (gg (ok (M 1 0)) <| if (M 1 0) < 4 then (some 0) else (some 3))
def f_X5_place (G n : Nat) (M : gaM) (v1 : Int) : Option (Int × gaM) := gb (f_X5_troubleOfPlace G n M v1) fun r1 => gB (ga_st M 0 10 r1) fun M2 => gg (ok (M2 0 10)) <| if (M2 0 10) = 0 then (gb2 (f_X2_add G n M2 v1) fun r4 M4 => some (r4, M4)) else (some ((-1), M2))
def f_X5_troubleOfFare (G n : Nat) (M : gaM) (v1 : Int) (v2 : Int) (v3 : Int) : Option (Int) := gb (f_X2_has G n M v1) fun r1 => gg (ok r1) <| if r1 = 0 then (some 1) else (gb (f_X2_has G n M v2) fun r3 => gg (ok r3) <| if r3 = 0 then (some 1) else (gg (ok v1) <| gg (ok v2) <| if v1 = v2 then (some 1) else (gb (f_X5_within G n M v3 0 99) fun r7 => gg (ok r7) <| if r7 = 0 then (some 2) else (some 0))))
def f_X5_fare (G n : Nat) (M : gaM) (v1 : Int) (v2 : Int) (v3 : Int) : Option (Int × gaM) := gb (f_X5_troubleOfFare G n M v1 v2 v3) fun r1 => gB (ga_st M 0 10 r1) fun M2 => gg (ok (M2 0 10)) <| if (M2 0 10) = 0 then (gg (ix v1 4) <| gg (ix v2 4) <| gB (ga_st M2 (11 + v1.toNat) v2.toNat v3) fun M5 => gB (ga_st M5 (11 + v2.toNat) v1.toNat v3) fun M7 => some (1, M7)) else (some (0, M2))
def f_X5_troubleOfGreen (G n : Nat) (M : gaM) (v1 : Int) (v2 : Int) (v3 : Int) (v4 : Int) : Option (Int) := gb (f_X2_has G n M v1) fun r1 => gg (ok r1) <| if r1 = 0 then (some 1) else (gb (f_X5_within G n M v2 (M 0 9) 299) fun r3 => gg (ok r3) <| gb (if r3 = 0 then (some 0) else (gb (f_X5_within G n M v3 v2 299) fun r6 => gg (ok r6) <| if r6 = 0 then (some 0) else (some 1))) fun s0_5 => gg (ok s0_5) <| if s0_5 = 0 then (some 2) else (gb (f_X5_within G n M v4 0 999) fun r9 => gg (ok r9) <| if r9 = 0 then (some 2) else (some 0)))
def l_X5_green_25 (G n : Nat) : Nat → gaM → Int → Int → Int → Int → Option (gaM)
  | 0, _, _, _, _, _ => none
  | F + 1, M, v1, v3, v4, v5 => gg (ok v5) <| gg (ok v3) <| if v5 ≤ v3 then (gg (ix v1 4) <| gg (ix v5 300) <| gB (ga_st M (21 + v1.toNat) v5.toNat v4) fun M8 => l_X5_green_25 G n F M8 v1 v3 v4 (v5 + 1)) else (some M)
def f_X5_green (G n : Nat) (M : gaM) (v1 : Int) (v2 : Int) (v3 : Int) (v4 : Int) : Option (Int × gaM) := gb (f_X5_troubleOfGreen G n M v1 v2 v3 v4) fun r1 => gB (ga_st M 0 10 r1) fun M2 => gg (ok (M2 0 10)) <| if (M2 0 10) = 0 then (gb (l_X5_green_25 G n G M2 v1 v3 v4 v2) fun M4 => some (1, M4)) else (some (0, M2))
def f_X5_told (G n : Nat) (M : gaM) (v1 : Int) (v2 : Int) : Option (Int) := gb (f_X2_has G n M v1) fun r1 => gg (ok r1) <| if r1 = 0 then (some (-1)) else (gb (f_X5_within G n M v2 0 299) fun r3 => gg (ok r3) <| if r3 = 0 then (some (-1)) else (gg (ix v1 4) <| gg (ix v2 300) <| some (M (21 + v1.toNat) v2.toNat)))
def f_X5_patience (G n : Nat) (M : gaM) (v1 : Int) : Option (Int × gaM) := gb (f_X5_within G n M v1 1 500) fun r1 => gg (ok r1) <| gb (if r1 = 0 then (some 2) else (some 0)) fun s0_3 => gB (ga_st M 0 10 s0_3) fun M4 => gg (ok (M4 0 10)) <| if (M4 0 10) = 0 then (gB (ga_st M4 0 8 v1) fun M6 => some (1, M6)) else (some (0, M4))
def f_X5_troubleOfJob (G n : Nat) (M : gaM) (v1 : Int) (v2 : Int) (v3 : Int) (v4 : Int) (v5 : Int) (v6 : Int) : Option (Int) := gb (f_X2_has G n M v2) fun r1 => gg (ok r1) <| if r1 = 0 then (some 1) else (gb (f_X5_within G n M v1 0 5) fun r3 => gg (ok r3) <| if r3 = 0 then (some 2) else (gb (f_X5_within G n M v3 1 12) fun r5 => gg (ok r5) <| if r5 = 0 then (some 2) else (gb (f_X5_within G n M v6 0 99) fun r7 => gg (ok r7) <| if r7 = 0 then (some 2) else (gb (f_X5_within G n M v5 0 300) fun r9 => gg (ok r9) <| if r9 = 0 then (some 2) else (gb (f_X5_within G n M v4 (M 0 9) (v5 - v3)) fun r11 => gg (ok r11) <| if r11 = 0 then (some 2) else (gb (f_Jx4a65c_size_8abf5 G n M) fun r13 => gg (ok r13) <| if r13 < 40 then (some 0) else (some 3)))))))
def f_X5_isJob (G n : Nat) (M : gaM) (v1 : Int) : Option (Int) := gg (ok v1) <| if 0 ≤ v1 then (gb (f_Jx4a65c_size_8abf5 G n M) fun r2 => gg (ok r2) <| if v1 < r2 then (some 1) else (some 0)) else (some 0)
def f_X5_troubleOfDrop (G n : Nat) (M : gaM) (v1 : Int) : Option (Int) := gb (f_X5_isJob G n M v1) fun r1 => gg (ok r1) <| if r1 = 0 then (some 1) else (gb (f_get n M v1) fun r3 => gg (ok (M r3 6)) <| if (M r3 6) = 0 then (some 0) else (some 4))
def f_X5_drop (G n : Nat) (M : gaM) (v1 : Int) : Option (Int × gaM) := gb (f_X5_troubleOfDrop G n M v1) fun r1 => gB (ga_st M 0 10 r1) fun M2 => gg (ok (M2 0 10)) <| if (M2 0 10) = 0 then (gb (f_get n M2 v1) fun r4 => gB (ga_st M2 r4 6 3) fun M5 => some (1, M5)) else (some (0, M2))
def f_X5_about (G n : Nat) (M : gaM) (v1 : Int) (v2 : Int) : Option (Int) := gb (f_X5_isJob G n M v1) fun r1 => gg (ok r1) <| if r1 = 0 then (some (-1)) else (gb (f_get n M v1) fun r3 => gb (f_X4_tell G n M r3 v2) fun r4 => some r4)
def f_X5_isBehind (G n : Nat) (M : gaM) (v1 : Int) : Option (Int) := gg (ix v1 6) <| gg (ok (M 3 v1.toNat)) <| gg (ok (M 0 8)) <| if (M 0 8) < (M 3 v1.toNat) then (some 1) else (some 0)
def f_X5_rankOf (G n : Nat) (M : gaM) (v1 : Int) : Option (Int) := gb (f_get n M v1) fun r1 => gb (f_X5_isBehind G n M (M r1 0)) fun r2 => gg (ok r2) <| if r2 = 0 then (some (((M r1 4) + 300) + 1)) else (some (M r1 4))
def l_X5_orderWaiting_44 (G n : Nat) : Nat → gaM → Int → Int → Int → Int → Option (gaM × Int)
  | 0, _, _, _, _, _ => none
  | F + 1, M, v1, v2, v3, v4 => gg (ok v4) <| if 0 < v4 then (gg (ix (v4 - 1) 40) <| gb (f_X5_rankOf G n M (M 8 (v4 - 1).toNat)) fun r12 => gg (ok r12) <| gg (ok v3) <| if v3 < r12 then (gg (ix v4 40) <| gB (ga_st M 8 v4.toNat (M 8 (v4 - 1).toNat)) fun M15 => l_X5_orderWaiting_44 G n F M15 v1 v2 v3 (v4 + (-1))) else (some (M, v4))) else (some (M, v4))
def l_X5_orderWaiting_4 (G n : Nat) : Nat → gaM → Int → Int → Option (gaM × Int)
  | 0, _, _, _ => none
  | F + 1, M, v1, v2 => gb (f_Jx4a65c_size_8abf5 G n M) fun r2 => gg (ok v2) <| gg (ok r2) <| if v2 < r2 then (gb (f_get n M v2) fun r5 => gg (ok (M r5 6)) <| gb2 (if (M r5 6) = 0 then (gb (f_X5_rankOf G n M v2) fun r8 => gb2 (l_X5_orderWaiting_44 G n G M v1 v2 r8 v1) fun M9 x4_9 => gg (ix x4_9 40) <| gB (ga_st M9 8 x4_9.toNat v2) fun M17 => some (M17, (v1 + 1))) else (some (M, v1))) fun M7 x1_7 => l_X5_orderWaiting_4 G n F M7 x1_7 (v2 + 1)) else (some (M, v1))
def f_X5_orderWaiting (G n : Nat) (M : gaM) : Option (Int × gaM) := gb2 (l_X5_orderWaiting_4 G n G M 0 0) fun M1 x1_1 => some (x1_1, M1)
def f_X5_layOne (G n : Nat) (M : gaM) (o1 : Nat) (v2 : Int) : Option (gaM) := gb (f_get n M v2) fun r1 => gg (ok (M r1 3)) <| gg (ok (M 0 9)) <| gb (f_X1_fill G n M r1 (max (M r1 3) (M 0 9)) (M r1 4) 0) fun M5 => gb (f_X5_isBehind G n M5 (M5 r1 0)) fun r6 => gg (ok r6) <| gb (if r6 = 0 then (gb (f_X1_pickCheapest G n M5) fun M9 => some M9) else (gb (f_X1_pickSoonest G n M5) fun M10 => some M10)) fun M8 => gg (ok (M8 6 6)) <| if (M8 6 6) = (-1) then (some M8) else (gb (f_X0_put G n M8 o1 v2 (M8 6 4) (M8 6 5) (M8 6 6)) fun M12 => gb (f_X2_take G n M12 (M12 6 4) (M12 6 5) (M12 r1 2)) fun M13 => some M13)
def l_X5_makePlan_11 (G n : Nat) (o1 : Nat) : Nat → gaM → Int → Int → Option (gaM)
  | 0, _, _, _ => none
  | F + 1, M, v2, v3 => gg (ok v3) <| gg (ok v2) <| if v3 < v2 then (gg (ix v3 40) <| gb (f_X5_layOne G n M o1 (M 8 v3.toNat)) fun M7 => l_X5_makePlan_11 G n o1 F M7 v2 (v3 + 1)) else (some M)
def l_X5_makePlan_35 (G n : Nat) (o1 : Nat) : Nat → gaM → Int → Int → Option (gaM)
  | 0, _, _, _ => none
  | F + 1, M, v2, v3 => gg (ok v3) <| gg (ok v2) <| if v3 < v2 then (gg (ix v3 40) <| gb (f_X0_has G n M o1 (M 8 v3.toNat)) fun r12 => gg (ok r12) <| gb (if r12 = 0 then (some M) else (gg (ix (M 8 v3.toNat) 40) <| gb (f_get n M (M 8 v3.toNat)) fun r16 => gb (f_X2_giveBack G n M (M (10 * o1) (M 8 v3.toNat).toNat) (M (10 * o1 + 1) (M 8 v3.toNat).toNat) (M r16 2)) fun M17 => some M17)) fun M14 => l_X5_makePlan_35 G n o1 F M14 v2 (v3 + 1)) else (some M)
def f_X5_makePlan (G n : Nat) (M : gaM) (o1 : Nat) : Option (gaM) := gb (f_X0_clear G n M o1) fun M1 => gb2 (f_X5_orderWaiting G n M1) fun r2 M2 => gb (l_X5_makePlan_11 G n o1 G M2 r2 0) fun M3 => gb (l_X5_makePlan_35 G n o1 G M3 r2 0) fun M8 => some M8
def f_X5_lay (G n : Nat) (M : gaM) : Option (Int × gaM) := gb (f_X5_makePlan G n M 4) fun M1 => some ((M1 4 3), M1)
def f_X5_laid (G n : Nat) (M : gaM) (v1 : Int) (v2 : Int) : Option (Int) := gb (f_X5_within G n M v1 0 39) fun r1 => gg (ok r1) <| if r1 = 0 then (some (-1)) else (gb (f_X0_tell G n M 4 v1 v2) fun r3 => some r3)
def f_X5_cost (G n : Nat) (M : gaM) : Option (Int) := some (M 4 4)
def l_X5_countOf_4 (G n : Nat) (M : gaM) : Nat → Int → Int → Int → Option (Int)
  | 0, _, _, _ => none
  | F + 1, v1, v2, v3 => gb (f_Jx4a65c_size_8abf5 G n M) fun r2 => gg (ok v3) <| gg (ok r2) <| if v3 < r2 then (gb (f_get n M v3) fun r5 => gg (ok (M r5 6)) <| gg (ok v1) <| gb (if (M r5 6) = v1 then (some (v2 + 1)) else (some v2)) fun x2_8 => l_X5_countOf_4 G n M F v1 x2_8 (v3 + 1)) else (some v2)
def f_X5_countOf (G n : Nat) (M : gaM) (v1 : Int) : Option (Int) := gb (l_X5_countOf_4 G n M G v1 0 0) fun x2_1 => some x2_1
def l_X5_leastTogether_9 (G n : Nat) : Nat → gaM → Int → Option (gaM)
  | 0, _, _ => none
  | F + 1, M, v1 => gb (f_Jx4a65c_size_8abf5 G n M) fun r3 => gg (ok v1) <| gg (ok r3) <| if v1 < r3 then (gb (f_get n M v1) fun r6 => gg (ok (M r6 6)) <| gb (if (M r6 6) = 0 then (gg (ok (M r6 3)) <| gg (ok (M 0 9)) <| gb (f_X1_fill G n M r6 (max (M r6 3) (M 0 9)) (M r6 4) 0) fun M12 => gb (f_X3_add G n M12 r6) fun M13 => some M13) else (some M)) fun M8 => l_X5_leastTogether_9 G n F M8 (v1 + 1)) else (some M)
def f_X5_leastTogether (G n : Nat) (M : gaM) : Option (Int × gaM) := gb (f_X3_clear G n M) fun M1 => gb (l_X5_leastTogether_9 G n G M1 0) fun M2 => gb2 (f_X3_least G n M2) fun r14 M14 => some (r14, M14)
def f_X5_best (G n : Nat) (M : gaM) : Option (Int × gaM) := gb (f_X5_countOf G n M 0) fun r1 => gg (ok r1) <| gb2 (if r1 ≤ 3 then (gb2 (f_X5_leastTogether G n M) fun r4 M4 => some (M4, r4)) else (some (M, (-1)))) fun M3 s0_3 => gg (ok s0_3) <| gb (if s0_3 = (-1) then (some 4) else (some 0)) fun s0_6 => gB (ga_st M3 0 10 s0_6) fun M7 => some (s0_3, M7)
def f_X5_free (G n : Nat) (M : gaM) (v1 : Int) (v2 : Int) : Option (Int) := gb (f_X2_has G n M v1) fun r1 => gg (ok r1) <| if r1 = 0 then (some (-1)) else (gb (f_X5_within G n M v2 (M 0 9) 299) fun r3 => gg (ok r3) <| if r3 = 0 then (some (-1)) else (gg (ix v1 4) <| gg (ix v2 300) <| some (M (31 + v1.toNat) v2.toNat)))
def f_X5_troubleOfPass (G n : Nat) (M : gaM) (v1 : Int) : Option (Int) := gb (f_X5_within G n M v1 1 48) fun r1 => gg (ok r1) <| if r1 = 0 then (some 2) else (gg (ok ((M 0 9) + v1)) <| if ((M 0 9) + v1) < 300 then (some 0) else (some 3))
def l_X5_beginLaid_2 (G n : Nat) : Nat → gaM → Int → Option (gaM)
  | 0, _, _ => none
  | F + 1, M, v1 => gb (f_Jx4a65c_size_8abf5 G n M) fun r2 => gg (ok v1) <| gg (ok r2) <| if v1 < r2 then (gb (f_X0_has G n M 5 v1) fun r5 => gg (ok r5) <| gb (if r5 = 0 then (some M) else (gg (ix v1 40) <| gg (ok (M (10 * 5 + 1) v1.toNat)) <| gg (ok (M 0 9)) <| if (M (10 * 5 + 1) v1.toNat) = (M 0 9) then (gb (f_get n M v1) fun r11 => gB (ga_st M r11 6 1) fun M12 => gB (ga_st M12 r11 7 (M12 (10 * 5) v1.toNat)) fun M13 => gB (ga_st M13 r11 8 (M13 0 9)) fun M14 => gg (ix (M14 r11 0) 6) <| gB (ga_st M14 3 (M14 r11 0).toNat ((M14 3 (M14 r11 0).toNat) + ((M14 0 9) - (M14 r11 3)))) fun M16 => gb (f_X2_take G n M16 (M16 r11 7) (M16 r11 8) (M16 r11 2)) fun M17 => some M17) else (some M))) fun M7 => l_X5_beginLaid_2 G n F M7 (v1 + 1)) else (some M)
def f_X5_beginLaid (G n : Nat) (M : gaM) : Option (gaM) := gb (l_X5_beginLaid_2 G n G M 0) fun M1 => some M1
def l_X5_loseLate_2 (G n : Nat) : Nat → gaM → Int → Option (gaM)
  | 0, _, _ => none
  | F + 1, M, v1 => gb (f_Jx4a65c_size_8abf5 G n M) fun r2 => gg (ok v1) <| gg (ok r2) <| if v1 < r2 then (gb (f_get n M v1) fun r5 => gg (ok (M r5 6)) <| gb (if (M r5 6) = 0 then (gg (ok (((M 0 9) + 1) + (M r5 2))) <| gg (ok (M r5 4)) <| if (M r5 4) < (((M 0 9) + 1) + (M r5 2)) then (gB (ga_st M r5 6 3) fun M10 => some M10) else (some M)) else (some M)) fun M7 => l_X5_loseLate_2 G n F M7 (v1 + 1)) else (some M)
def f_X5_loseLate (G n : Nat) (M : gaM) : Option (gaM) := gb (l_X5_loseLate_2 G n G M 0) fun M1 => some M1
def f_X5_doHour (G n : Nat) (M : gaM) (w1 : Nat) : Option (Int × gaM) := gg (ix (M w1 7) 4) <| gg (ix (M 0 9) 300) <| gB (ga_st M w1 9 ((M w1 9) + (M (21 + (M w1 7).toNat) (M 0 9).toNat))) fun M3 => gg (ok (M3 w1 8)) <| gg (ok (M3 0 9)) <| gb (if (M3 w1 8) = (M3 0 9) then (gb (f_X2_carriage G n M3 w1 (M3 w1 7)) fun r7 => gB (ga_st M3 w1 9 ((M3 w1 9) + r7)) fun M8 => some M8) else (some M3)) fun M6 => gg (ok (((M6 w1 8) + (M6 w1 2)) - 1)) <| gg (ok (M6 0 9)) <| if (M6 0 9) < (((M6 w1 8) + (M6 w1 2)) - 1) then (some (0, M6)) else (gB (ga_st M6 w1 6 2) fun M11 => some (1, M11))
def l_X5_passHour_20 (G n : Nat) : Nat → gaM → Int → Int → Option (gaM × Int)
  | 0, _, _, _ => none
  | F + 1, M, v1, v2 => gb (f_Jx4a65c_size_8abf5 G n M) fun r5 => gg (ok v2) <| gg (ok r5) <| if v2 < r5 then (gb (f_get n M v2) fun r8 => gg (ok (M r8 6)) <| gb2 (if (M r8 6) = 1 then (gb (f_get n M v2) fun r11 => gb2 (f_X5_doHour G n M r11) fun r12 M12 => some (M12, (v1 + r12))) else (some (M, v1))) fun M10 x1_10 => l_X5_passHour_20 G n F M10 x1_10 (v2 + 1)) else (some (M, v1))
def f_X5_passHour (G n : Nat) (M : gaM) : Option (Int × gaM) := gb (f_X5_makePlan G n M 5) fun M1 => gb (f_X5_beginLaid G n M1) fun M2 => gb (f_X5_loseLate G n M2) fun M3 => gb2 (l_X5_passHour_20 G n G M3 0 0) fun M4 x1_4 => gB (ga_st M4 0 9 ((M4 0 9) + 1)) fun M13 => some (x1_4, M13)
def l_X5_pass_22 (G n : Nat) : Nat → gaM → Int → Int → Int → Option (gaM × Int)
  | 0, _, _, _, _ => none
  | F + 1, M, v1, v2, v3 => gg (ok v3) <| gg (ok v1) <| if v3 < v1 then (gb2 (f_X5_passHour G n M) fun r7 M7 => l_X5_pass_22 G n F M7 v1 (v2 + r7) (v3 + 1)) else (some (M, v2))
def f_X5_pass (G n : Nat) (M : gaM) (v1 : Int) : Option (Int × gaM) := gb (f_X5_troubleOfPass G n M v1) fun r1 => gB (ga_st M 0 10 r1) fun M2 => gg (ok (M2 0 10)) <| if (M2 0 10) = 0 then (gb2 (l_X5_pass_22 G n G M2 v1 0 0) fun M4 x2_4 => some (x2_4, M4)) else (some ((-1), M2))
def f_X5_delay (G n : Nat) (M : gaM) (v1 : Int) : Option (Int) := gb (f_X5_within G n M v1 0 5) fun r1 => gg (ok r1) <| if r1 = 0 then (some (-1)) else (gg (ix v1 6) <| some (M 3 v1.toNat))
def f_X5_behind (G n : Nat) (M : gaM) (v1 : Int) : Option (Int) := gb (f_X5_within G n M v1 0 5) fun r1 => gg (ok r1) <| if r1 = 0 then (some (-1)) else (gb (f_X5_isBehind G n M v1) fun r3 => gg (ok r3) <| if r3 = 0 then (some 0) else (some 1))
def l_X5_paid_4 (G n : Nat) (M : gaM) : Nat → Int → Int → Option (Int)
  | 0, _, _ => none
  | F + 1, v1, v2 => gb (f_Jx4a65c_size_8abf5 G n M) fun r2 => gg (ok v2) <| gg (ok r2) <| if v2 < r2 then (gb (f_get n M v2) fun r5 => l_X5_paid_4 G n M F (v1 + (M r5 9)) (v2 + 1)) else (some v1)
def f_X5_paid (G n : Nat) (M : gaM) : Option (Int) := gb (l_X5_paid_4 G n M G 0 0) fun x1_1 => some x1_1
def l_X5_atOnce_4 (G n : Nat) (M : gaM) : Nat → Int → Int → Option (Int)
  | 0, _, _ => none
  | F + 1, v1, v2 => gb (f_Jx4a65c_size_8abf5 G n M) fun r2 => gg (ok v2) <| gg (ok r2) <| if v2 < r2 then (gb (f_get n M v2) fun r5 => gg (ok (M r5 6)) <| gb (if (M r5 6) = 2 then (gb (f_X2_costOf G n M r5 (M r5 1) (M r5 3)) fun r8 => some (v1 + r8)) else (some v1)) fun x1_7 => l_X5_atOnce_4 G n M F x1_7 (v2 + 1)) else (some v1)
def f_X5_atOnce (G n : Nat) (M : gaM) : Option (Int) := gb (l_X5_atOnce_4 G n M G 0 0) fun x1_1 => some x1_1
def l_X5_paidOfDone_4 (G n : Nat) (M : gaM) : Nat → Int → Int → Option (Int)
  | 0, _, _ => none
  | F + 1, v1, v2 => gb (f_Jx4a65c_size_8abf5 G n M) fun r2 => gg (ok v2) <| gg (ok r2) <| if v2 < r2 then (gb (f_get n M v2) fun r5 => gg (ok (M r5 6)) <| gb (if (M r5 6) = 2 then (gb (f_get n M v2) fun r8 => some (v1 + (M r8 9))) else (some v1)) fun x1_7 => l_X5_paidOfDone_4 G n M F x1_7 (v2 + 1)) else (some v1)
def f_X5_paidOfDone (G n : Nat) (M : gaM) : Option (Int) := gb (l_X5_paidOfDone_4 G n M G 0 0) fun x1_1 => some x1_1
def f_X5_saved (G n : Nat) (M : gaM) : Option (Int) := gb (f_X5_atOnce G n M) fun r1 => gb (f_X5_paidOfDone G n M) fun r2 => some (r1 - r2)
def f_X5_regretOf (G n : Nat) (M : gaM) (w1 : Nat) : Option (Int × gaM) := gg (ok (M w1 4)) <| gg (ok (M 0 9)) <| gb (f_X1_fill G n M w1 (M w1 3) (min (M w1 4) (M 0 9)) 1) fun M4 => gb (f_X1_pickCheapest G n M4) fun M5 => some (((M5 w1 9) - (M5 6 6)), M5)
def f_X5_regret (G n : Nat) (M : gaM) (v1 : Int) : Option (Int × gaM) := gb (f_X5_isJob G n M v1) fun r1 => gg (ok r1) <| if r1 = 0 then (some ((-1), M)) else (gb (f_get n M v1) fun r3 => gg (ok (M r3 6)) <| if (M r3 6) = 2 then (gb (f_get n M v1) fun r5 => gb2 (f_X5_regretOf G n M r5) fun r6 M6 => some (r6, M6)) else (some ((-1), M)))
def l_X5_worst_7 (G n : Nat) : Nat → gaM → Int → Int → Int → Option (gaM × Int)
  | 0, _, _, _, _ => none
  | F + 1, M, v1, v2, v3 => gb (f_Jx4a65c_size_8abf5 G n M) fun r2 => gg (ok v3) <| gg (ok r2) <| if v3 < r2 then (gb (f_get n M v3) fun r5 => gg (ok (M r5 6)) <| gb3 (if (M r5 6) = 2 then (gb (f_get n M v3) fun r8 => gb2 (f_X5_regretOf G n M r8) fun r9 M9 => gg (ok v1) <| if v1 = (-2) then (some (M9, v3, r9)) else (gg (ok r9) <| gg (ok v2) <| if v2 < r9 then (some (M9, v3, r9)) else (some (M9, v1, v2)))) else (some (M, v1, v2))) fun M7 x1_7 x2_7 => l_X5_worst_7 G n F M7 x1_7 x2_7 (v3 + 1)) else (some (M, v1))
def f_X5_worst (G n : Nat) (M : gaM) : Option (Int × gaM) := gb2 (l_X5_worst_7 G n G M (-2) 0 0) fun M1 x1_1 => some (x1_1, M1)
def f_X5_would (G n : Nat) (M : gaM) (v1 : Int) (v2 : Int) (v3 : Int) : Option (Int × gaM) := gb (f_X5_isJob G n M v1) fun r1 => gg (ok r1) <| gb (if r1 = 0 then (some 1) else (gb (f_X2_has G n M v2) fun r4 => gg (ok r4) <| if r4 = 0 then (some 1) else (some 0))) fun s0_3 => gB (ga_st M 0 10 s0_3) fun M6 => gg (ok (M6 0 10)) <| if (M6 0 10) = 0 then (gb (f_get n M6 v1) fun r8 => gb (f_X5_within G n M6 v3 (M6 r8 3) ((M6 r8 4) - (M6 r8 2))) fun r9 => gg (ok r9) <| if r9 = 0 then (some ((-2), M6)) else (gb (f_X2_costOf G n M6 r8 v2 v3) fun r11 => some (r11, M6))) else (some ((-1), M6))
def f_X5_count (G n : Nat) (M : gaM) (v1 : Int) : Option (Int) := gg (ok v1) <| if v1 = 0 then (some (M 1 0)) else (if v1 = 1 then (gb (f_Jx4a65c_size_8abf5 G n M) fun r2 => some r2) else (if v1 = 2 then (gb (f_X5_countOf G n M 0) fun r3 => some r3) else (if v1 = 3 then (gb (f_X5_countOf G n M 1) fun r4 => some r4) else (if v1 = 4 then (gb (f_X5_countOf G n M 2) fun r5 => some r5) else (if v1 = 5 then (gb (f_X5_countOf G n M 3) fun r6 => some r6) else (if v1 = 6 then (some (M 0 9)) else (some (-1))))))))
def f_X5_trouble (G n : Nat) (M : gaM) : Option (Int) := some (M 0 10)
