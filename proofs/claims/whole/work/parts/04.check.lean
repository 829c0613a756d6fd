/-! ===== printed by program: the code's rows against the bytes ===== -/
def OLl : Nat → List Nat
  | 0 => [3]
  | 1 => [3]
  | 2 => [3]
  | 3 => [3]
  | 4 => [3]
  | 5 => [5]
  | 6 => [3]
  | 7 => [3]
  | 8 => [3]
  | 9 => [3]
  | 10 => [3]
  | 11 => [5]
  | 12 => [3]
  | _ => []
def MXl : Nat → List (Nat × Nat)
  | 4 => [(45, 997), (51, 998)]
  | 9 => [(65, 997)]
  | 11 => [(364, 997)]
  | 12 => [(140, 997), (145, 998)]
  | _ => []
def chkI (o fr lo i k n c kind : Nat) : Bool := match MTl[k]? with
  | some t => Nat.beq t.2.2.2.2.2.1 n && Nat.beq t.2.2.2.2.2.2.1 kind && Nat.beq c (bif Nat.beq kind 0 then 0 else t.1 + 1) && Nat.ble (t.2.2.2.2.2.2.2.1 + 1) fr && Nat.ble (8 + (t.2.2.2.1 + 11) + t.2.2.2.2.2.2.2.2.1) lo && (MLl o).elem (i, k) && Nat.blt k 900
  | none => false

/-- how long an instruction is -/
def ilen : Instr → Nat
  | .iload _ => 2
  | .lload _ => 2
  | .aload _ => 2
  | .istore _ => 2
  | .lstore _ => 2
  | .astore _ => 2
  | .bipush _ => 2
  | .sipush _ => 3
  | .ldc _ => 2
  | .ldc_w _ => 3
  | .ldc2_w _ => 3
  | .iinc _ _ => 3
  | .if_icmp _ _ => 3
  | .ifCond _ _ => 3
  | .goto _ => 3
  | .ifnull _ => 3
  | .ifnonnull _ => 3
  | .getfield _ => 3
  | .putfield _ => 3
  | .invokevirtual _ => 3
  | .invokespecial _ => 3
  | .invokestatic _ => 3
  | .new _ => 3
  | .newarray _ => 2
  | .anewarray _ => 3
  | _ => 1
def isSw : Instr → Bool
  | .tableswitch _ _ _ _ => true
  | .lookupswitch _ _ => true
  | _ => false
/-- does a row of the code say what the bytes say -/
def chkD (bytes : ByteArray) (pc : Nat) (e : Ent) : Bool :=
  bif isSw e.1 then decide (decode bytes pc = .ok (e.1, e.2.1 - pc)) else decide (decode bytes pc = .ok (e.1, ilen e.1)) && Nat.beq e.2.1 (pc + ilen e.1)
/-- jumps, places of locals, links -/
def chkJ (o : Nat) (ini : Bool) (rk maxL fr lo : Nat) (pc : Nat) : Ent → Bool
  | (.if_icmp _ off, _, a, _, _, _) => decide ((pc : Int) + off = (a : Int))
  | (.ifCond _ off, _, a, _, _, _) => decide ((pc : Int) + off = (a : Int))
  | (.goto off, _, a, _, _, _) => decide ((pc : Int) + off = (a : Int))
  | (.ifnull off, _, a, _, _, _) => decide ((pc : Int) + off = (a : Int))
  | (.ifnonnull off, _, a, _, _, _) => decide ((pc : Int) + off = (a : Int))
  | (.istore_n k, _) => Nat.blt k maxL
  | (.astore_n k, _) => Nat.blt k maxL
  | (.lstore_n k, _) => Nat.blt (k + 1) maxL
  | (.istore k, _) => Nat.blt k maxL
  | (.astore k, _) => Nat.blt k maxL
  | (.lstore k, _) => Nat.blt (k + 1) maxL
  | (.iinc k _, _) => Nat.blt k maxL
  | (.getfield i, _, k, c, _, _) => (FLl o).elem (i, k, c)
  | (.putfield i, _, k, c, f, _) => (FLl o).elem (i, k, c) && (bif Nat.beq f 1 then ini && decide (((TT c) k).2.2.2 = true) && decide (((TT c) k).1 = cn o) && Nat.beq (kd (tyT c k)) 2 else decide (((TT c) k).2.2.2 = false) && Nat.blt (kd (tyT c k)) 2)
  | (.new i, _, c, n, _, _) => (CLl o).elem (i, c) && Nat.blt c 13 && Nat.beq n (NN c)
  | (.anewarray i, _) => (CLl o).elem (i, 3)
  | (.ldc i, _, _, _, _, z) => (KLl o).elem (i, z)
  | (.ldc_w i, _, _, _, _, z) => (KLl o).elem (i, z)
  | (.ldc2_w i, _, _, _, _, z) => (KKl o).elem (i, z)
  | (.ireturn, _) => Nat.beq rk 1 || Nat.beq rk 2
  | (.lreturn, _) => Nat.beq rk 3
  | (.areturn, _) => Nat.beq rk 4
  | (.return_, _) => Nat.beq rk 0
  | (.tableswitch d lo hi offs, _) => decide (hi - lo < (offs.size : Int)) && decide (0 ≤ (pc : Int) + d) && offs.toList.all (fun x => decide (0 ≤ (pc : Int) + x))
  | (.lookupswitch d ps, _) => decide (0 ≤ (pc : Int) + d) && ps.toList.all (fun x => decide (0 ≤ (pc : Int) + x.2)) && (ps.toList.zip (ps.toList.drop 1)).all (fun (a, next) => a.1 < next.1)
  | (.invokevirtual i, _, k, n, c, _) => chkI o fr lo i k n c 1
  | (.invokestatic i, _, k, n, c, _) => bif Nat.blt 900 k then Nat.blt 0 fr && Nat.ble 21 lo && (MXl o).elem (i, k) else chkI o fr lo i k n c 0
  | (.invokespecial i, _, k, n, c, _) => bif Nat.beq k 999 then Nat.blt 0 fr && Nat.ble 20 lo && (OLl o).elem i else chkI o fr lo i k n c 2
  | _ => true
def chk (o : Nat) (ini : Bool) (rk : Nat) (bytes : ByteArray) (maxL fr lo : Nat) (cd : Cd) : Bool := cd.all (fun q => chkD bytes q.1 q.2 && chkJ o ini rk maxL fr lo q.1 q.2)
def rkT : Option FieldType → Nat
  | none => 0
  | some .int => 1
  | some .boolean => 2
  | some .long => 3
  | some (.object _) => 4
  | _ => 9

set_option maxRecDepth 20000 in
theorem ck_X0_init : chk 0 true 0 cX0_init 1 1 20 cd_X0_init = true := by decide +kernel
set_option maxRecDepth 20000 in
theorem ck_X4_isFree : chk 4 false 2 cX4_isFree 6 0 0 cd_X4_isFree = true := by decide +kernel
set_option maxRecDepth 20000 in
theorem ck_X11_at : chk 11 false 1 cX11_at 2 0 0 cd_X11_at = true := by decide +kernel
set_option maxRecDepth 20000 in
theorem ck_J6_bitCount_0f7a4 : chk 13 false 1 cJ6_bitCount_0f7a4 1 0 0 cd_J6_bitCount_0f7a4 = true := by decide +kernel
set_option maxRecDepth 20000 in
theorem ck_X6_against : chk 6 false 1 cX6_against 3 1 21 cd_X6_against = true := by decide +kernel
set_option maxRecDepth 20000 in
theorem ck_X6_key : chk 6 false 3 cX6_key 5 2 43 cd_X6_key = true := by decide +kernel
set_option maxRecDepth 20000 in
theorem ck_X11_lay : chk 11 false 0 cX11_lay 3 0 0 cd_X11_lay = true := by decide +kernel
set_option maxRecDepth 20000 in
theorem ck_X0_join : chk 0 false 1 cX0_join 5 1 22 cd_X0_join = true := by decide +kernel
set_option maxRecDepth 20000 in
theorem ck_X0_putInOrder : chk 0 false 0 cX0_putInOrder 4 1 22 cd_X0_putInOrder = true := by decide +kernel
set_option maxRecDepth 20000 in
theorem ck_X0_find : chk 0 false 0 cX0_find 4 3 67 cd_X0_find = true := by decide +kernel
set_option maxRecDepth 20000 in
theorem ck_X4_sources : chk 4 false 1 cX4_sources 4 0 0 cd_X4_sources = true := by decide +kernel
set_option maxRecDepth 20000 in
theorem ck_X0_rootedAt : chk 0 false 1 cX0_rootedAt 5 1 23 cd_X0_rootedAt = true := by decide +kernel
set_option maxRecDepth 20000 in
theorem ck_X1_init : chk 1 true 0 cX1_init 1 1 20 cd_X1_init = true := by decide +kernel
set_option maxRecDepth 20000 in
theorem ck_X1_add : chk 1 false 0 cX1_add 4 1 22 cd_X1_add = true := by decide +kernel
set_option maxRecDepth 20000 in
theorem ck_X1_copy : chk 1 false 0 cX1_copy 3 2 45 cd_X1_copy = true := by decide +kernel
set_option maxRecDepth 20000 in
theorem ck_X1_takeNewest : chk 1 false 1 cX1_takeNewest 1 1 21 cd_X1_takeNewest = true := by decide +kernel
set_option maxRecDepth 20000 in
theorem ck_X1_thinOut : chk 1 false 1 cX1_thinOut 6 2 45 cd_X1_thinOut = true := by decide +kernel
set_option maxRecDepth 20000 in
theorem ck_X2_init : chk 2 true 0 cX2_init 1 1 20 cd_X2_init = true := by decide +kernel
set_option maxRecDepth 20000 in
theorem ck_X2_add : chk 2 false 1 cX2_add 3 1 22 cd_X2_add = true := by decide +kernel
set_option maxRecDepth 20000 in
theorem ck_X2_copy : chk 2 false 0 cX2_copy 3 2 44 cd_X2_copy = true := by decide +kernel
set_option maxRecDepth 20000 in
theorem ck_X3_init : chk 3 true 0 cX3_init 1 1 20 cd_X3_init = true := by decide +kernel
set_option maxRecDepth 20000 in
theorem ck_X3_take : chk 3 false 0 cX3_take 4 0 0 cd_X3_take = true := by decide +kernel
set_option maxRecDepth 20000 in
theorem ck_X3_takeRow : chk 3 false 0 cX3_takeRow 3 1 23 cd_X3_takeRow = true := by decide +kernel
set_option maxRecDepth 20000 in
theorem ck_X4_init : chk 4 true 0 cX4_init 1 1 20 cd_X4_init = true := by decide +kernel
set_option maxRecDepth 20000 in
theorem ck_X4_mark : chk 4 false 0 cX4_mark 6 1 22 cd_X4_mark = true := by decide +kernel
set_option maxRecDepth 20000 in
theorem ck_X4_clear : chk 4 false 0 cX4_clear 2 2 47 cd_X4_clear = true := by decide +kernel
set_option maxRecDepth 20000 in
theorem ck_X4_copy : chk 4 false 0 cX4_copy 3 2 47 cd_X4_copy = true := by decide +kernel
set_option maxRecDepth 20000 in
theorem ck_X4_join : chk 4 false 0 cX4_join 3 2 47 cd_X4_join = true := by decide +kernel
set_option maxRecDepth 20000 in
theorem ck_X4_remove : chk 4 false 0 cX4_remove 4 2 47 cd_X4_remove = true := by decide +kernel
set_option maxRecDepth 20000 in
theorem ck_X4_hasNode : chk 4 false 2 cX4_hasNode 2 0 0 cd_X4_hasNode = true := by decide +kernel
set_option maxRecDepth 20000 in
theorem ck_X4_hasEdge : chk 4 false 2 cX4_hasEdge 2 0 0 cd_X4_hasEdge = true := by decide +kernel
set_option maxRecDepth 20000 in
theorem ck_X4_hasArrowing : chk 4 false 2 cX4_hasArrowing 2 0 0 cd_X4_hasArrowing = true := by decide +kernel
set_option maxRecDepth 20000 in
theorem ck_X4_between : chk 4 false 1 cX4_between 4 1 21 cd_X4_between = true := by decide +kernel
set_option maxRecDepth 20000 in
theorem ck_X11_isIn : chk 11 false 2 cX11_isIn 2 0 0 cd_X11_isIn = true := by decide +kernel
set_option maxRecDepth 20000 in
theorem ck_X4_tail : chk 4 false 1 cX4_tail 3 1 21 cd_X4_tail = true := by decide +kernel
set_option maxRecDepth 20000 in
theorem ck_X4_head : chk 4 false 1 cX4_head 3 1 21 cd_X4_head = true := by decide +kernel
set_option maxRecDepth 20000 in
theorem ck_X4_turned : chk 4 false 1 cX4_turned 3 1 21 cd_X4_turned = true := by decide +kernel
set_option maxRecDepth 20000 in
theorem ck_X4_sinks : chk 4 false 1 cX4_sinks 2 1 23 cd_X4_sinks = true := by decide +kernel
set_option maxRecDepth 20000 in
theorem ck_X5_init : chk 5 true 0 cX5_init 1 1 20 cd_X5_init = true := by decide +kernel
set_option maxRecDepth 20000 in
theorem ck_X5_partOf : chk 5 false 1 cX5_partOf 2 0 0 cd_X5_partOf = true := by decide +kernel
set_option maxRecDepth 20000 in
theorem ck_X5_joined : chk 5 false 1 cX5_joined 7 1 21 cd_X5_joined = true := by decide +kernel
set_option maxRecDepth 20000 in
theorem ck_X5_tallyAll : chk 5 false 0 cX5_tallyAll 6 1 22 cd_X5_tallyAll = true := by decide +kernel
set_option maxRecDepth 20000 in
theorem ck_X5_find : chk 5 false 0 cX5_find 5 2 47 cd_X5_find = true := by decide +kernel
set_option maxRecDepth 20000 in
theorem ck_X5_value : chk 5 false 3 cX5_value 11 1 21 cd_X5_value = true := by decide +kernel
set_option maxRecDepth 20000 in
theorem ck_X6_init : chk 6 true 0 cX6_init 1 1 20 cd_X6_init = true := by decide +kernel
set_option maxRecDepth 20000 in
theorem ck_X6_wayBack : chk 6 false 1 cX6_wayBack 9 1 21 cd_X6_wayBack = true := by decide +kernel
set_option maxRecDepth 20000 in
theorem ck_X6_addChord : chk 6 false 0 cX6_addChord 4 2 49 cd_X6_addChord = true := by decide +kernel
set_option maxRecDepth 20000 in
theorem ck_X6_growTree : chk 6 false 0 cX6_growTree 7 1 22 cd_X6_growTree = true := by decide +kernel
set_option maxRecDepth 20000 in
theorem ck_X6_draw : chk 6 false 0 cX6_draw 5 3 72 cd_X6_draw = true := by decide +kernel
set_option maxRecDepth 20000 in
theorem ck_X6_chordOf : chk 6 false 1 cX6_chordOf 3 1 21 cd_X6_chordOf = true := by decide +kernel
set_option maxRecDepth 20000 in
theorem ck_X6_round : chk 6 false 1 cX6_round 3 2 43 cd_X6_round = true := by decide +kernel
set_option maxRecDepth 20000 in
theorem ck_X7_init : chk 7 true 0 cX7_init 1 1 20 cd_X7_init = true := by decide +kernel
set_option maxRecDepth 20000 in
theorem ck_X7_greatestOf : chk 7 false 1 cX7_greatestOf 3 1 21 cd_X7_greatestOf = true := by decide +kernel
set_option maxRecDepth 20000 in
theorem ck_X7_leastFrom : chk 7 false 1 cX7_leastFrom 5 1 21 cd_X7_leastFrom = true := by decide +kernel
set_option maxRecDepth 20000 in
theorem ck_X7_weight : chk 7 false 1 cX7_weight 4 1 21 cd_X7_weight = true := by decide +kernel
set_option maxRecDepth 20000 in
theorem ck_X7_heaviest : chk 7 false 1 cX7_heaviest 8 2 44 cd_X7_heaviest = true := by decide +kernel
set_option maxRecDepth 20000 in
theorem ck_X7_choose : chk 7 false 1 cX7_choose 5 3 71 cd_X7_choose = true := by decide +kernel
set_option maxRecDepth 20000 in
theorem ck_X7_fireThought : chk 7 false 0 cX7_fireThought 3 2 43 cd_X7_fireThought = true := by decide +kernel
set_option maxRecDepth 20000 in
theorem ck_X7_go : chk 7 false 0 cX7_go 7 4 95 cd_X7_go = true := by decide +kernel
set_option maxRecDepth 20000 in
theorem ck_X8_init : chk 8 true 0 cX8_init 1 1 20 cd_X8_init = true := by decide +kernel
set_option maxRecDepth 20000 in
theorem ck_X8_add : chk 8 false 0 cX8_add 2 1 22 cd_X8_add = true := by decide +kernel
set_option maxRecDepth 20000 in
theorem ck_X8_digitAt : chk 8 false 1 cX8_digitAt 2 1 21 cd_X8_digitAt = true := by decide +kernel
set_option maxRecDepth 20000 in
theorem ck_X8_drawInto : chk 8 false 1 cX8_drawInto 6 3 69 cd_X8_drawInto = true := by decide +kernel
set_option maxRecDepth 20000 in
theorem ck_X9_init : chk 9 true 0 cX9_init 2 1 20 cd_X9_init = true := by decide +kernel
set_option maxRecDepth 20000 in
theorem ck_X9_see : chk 9 false 0 cX9_see 3 1 22 cd_X9_see = true := by decide +kernel
set_option maxRecDepth 20000 in
theorem ck_X9_search : chk 9 false 0 cX9_search 8 2 44 cd_X9_search = true := by decide +kernel
set_option maxRecDepth 20000 in
theorem ck_X9_searchOn : chk 9 false 0 cX9_searchOn 3 3 71 cd_X9_searchOn = true := by decide +kernel
set_option maxRecDepth 20000 in
theorem ck_X9_searchBack : chk 9 false 0 cX9_searchBack 3 3 71 cd_X9_searchBack = true := by decide +kernel
set_option maxRecDepth 20000 in
theorem ck_X9_greatest : chk 9 false 1 cX9_greatest 1 1 21 cd_X9_greatest = true := by decide +kernel
set_option maxRecDepth 20000 in
theorem ck_X9_leastAt : chk 9 false 1 cX9_leastAt 4 1 21 cd_X9_leastAt = true := by decide +kernel
set_option maxRecDepth 20000 in
theorem ck_X9_nodeTowards : chk 9 false 1 cX9_nodeTowards 6 2 43 cd_X9_nodeTowards = true := by decide +kernel
set_option maxRecDepth 20000 in
theorem ck_X9_fewestBehindOne : chk 9 false 1 cX9_fewestBehindOne 7 2 43 cd_X9_fewestBehindOne = true := by decide +kernel
set_option maxRecDepth 20000 in
theorem ck_X9_layLong : chk 9 false 0 cX9_layLong 4 0 0 cd_X9_layLong = true := by decide +kernel
set_option maxRecDepth 20000 in
theorem ck_X9_longAt : chk 9 false 3 cX9_longAt 2 0 0 cd_X9_longAt = true := by decide +kernel
set_option maxRecDepth 20000 in
theorem ck_X9_rowsBehindOne : chk 9 false 3 cX9_rowsBehindOne 7 2 43 cd_X9_rowsBehindOne = true := by decide +kernel
set_option maxRecDepth 20000 in
theorem ck_X9_rowsOf : chk 9 false 3 cX9_rowsOf 7 3 69 cd_X9_rowsOf = true := by decide +kernel
set_option maxRecDepth 20000 in
theorem ck_X10_init : chk 10 true 0 cX10_init 1 1 20 cd_X10_init = true := by decide +kernel
set_option maxRecDepth 20000 in
theorem ck_X10_take : chk 10 false 2 cX10_take 7 1 22 cd_X10_take = true := by decide +kernel
set_option maxRecDepth 20000 in
theorem ck_X10_takeOne : chk 10 false 2 cX10_takeOne 3 2 48 cd_X10_takeOne = true := by decide +kernel
set_option maxRecDepth 20000 in
theorem ck_X10_takeOther : chk 10 false 2 cX10_takeOther 3 2 48 cd_X10_takeOther = true := by decide +kernel
set_option maxRecDepth 20000 in
theorem ck_X10_arrowsOf : chk 10 false 1 cX10_arrowsOf 5 1 21 cd_X10_arrowsOf = true := by decide +kernel
set_option maxRecDepth 20000 in
theorem ck_X10_pairsOff : chk 10 false 1 cX10_pairsOff 5 1 21 cd_X10_pairsOff = true := by decide +kernel
set_option maxRecDepth 20000 in
theorem ck_X10_order : chk 10 false 0 cX10_order 5 2 43 cd_X10_order = true := by decide +kernel
set_option maxRecDepth 20000 in
theorem ck_X10_mayCome : chk 10 false 2 cX10_mayCome 3 1 21 cd_X10_mayCome = true := by decide +kernel
set_option maxRecDepth 20000 in
theorem ck_X10_howMany : chk 10 false 1 cX10_howMany 6 2 43 cd_X10_howMany = true := by decide +kernel
set_option maxRecDepth 20000 in
theorem ck_X10_leastWord : chk 10 false 1 cX10_leastWord 6 2 43 cd_X10_leastWord = true := by decide +kernel
set_option maxRecDepth 20000 in
theorem ck_X11_init : chk 11 true 0 cX11_init 2 2 41 cd_X11_init = true := by decide +kernel
set_option maxRecDepth 20000 in
theorem ck_X11_renew : chk 11 false 0 cX11_renew 1 4 96 cd_X11_renew = true := by decide +kernel
set_option maxRecDepth 20000 in
theorem ck_X11_nodes : chk 11 false 1 cX11_nodes 3 5 116 cd_X11_nodes = true := by decide +kernel
set_option maxRecDepth 20000 in
theorem ck_X11_edge : chk 11 false 1 cX11_edge 3 5 116 cd_X11_edge = true := by decide +kernel
set_option maxRecDepth 20000 in
theorem ck_X11_cut : chk 11 false 1 cX11_cut 2 5 116 cd_X11_cut = true := by decide +kernel
set_option maxRecDepth 20000 in
theorem ck_X11_of : chk 11 false 1 cX11_of 3 2 43 cd_X11_of = true := by decide +kernel
set_option maxRecDepth 20000 in
theorem ck_X11_arrows : chk 11 false 1 cX11_arrows 1 0 0 cd_X11_arrows = true := by decide +kernel
set_option maxRecDepth 20000 in
theorem ck_X11_set : chk 11 false 1 cX11_set 3 1 21 cd_X11_set = true := by decide +kernel
set_option maxRecDepth 20000 in
theorem ck_X11_ends : chk 11 false 1 cX11_ends 3 2 44 cd_X11_ends = true := by decide +kernel
set_option maxRecDepth 20000 in
theorem ck_X11_free : chk 11 false 1 cX11_free 2 1 25 cd_X11_free = true := by decide +kernel
set_option maxRecDepth 20000 in
theorem ck_X11_deed : chk 11 false 1 cX11_deed 4 2 45 cd_X11_deed = true := by decide +kernel
set_option maxRecDepth 20000 in
theorem ck_X11_fire : chk 11 false 1 cX11_fire 2 3 68 cd_X11_fire = true := by decide +kernel
set_option maxRecDepth 20000 in
theorem ck_X11_drown : chk 11 false 1 cX11_drown 2 3 68 cd_X11_drown = true := by decide +kernel
set_option maxRecDepth 20000 in
theorem ck_X11_back : chk 11 false 1 cX11_back 1 2 43 cd_X11_back = true := by decide +kernel
set_option maxRecDepth 20000 in
theorem ck_X11_thin : chk 11 false 1 cX11_thin 1 3 70 cd_X11_thin = true := by decide +kernel
set_option maxRecDepth 20000 in
theorem ck_X11_log : chk 11 false 1 cX11_log 3 1 21 cd_X11_log = true := by decide +kernel
set_option maxRecDepth 20000 in
theorem ck_X11_flow : chk 11 false 3 cX11_flow 4 3 65 cd_X11_flow = true := by decide +kernel
set_option maxRecDepth 20000 in
theorem ck_X11_areAlike : chk 11 false 2 cX11_areAlike 3 3 67 cd_X11_areAlike = true := by decide +kernel
set_option maxRecDepth 20000 in
theorem ck_X11_alike : chk 11 false 1 cX11_alike 3 4 89 cd_X11_alike = true := by decide +kernel
set_option maxRecDepth 20000 in
theorem ck_X11_many : chk 11 false 1 cX11_many 2 4 90 cd_X11_many = true := by decide +kernel
set_option maxRecDepth 20000 in
theorem ck_X11_ofClass : chk 11 false 1 cX11_ofClass 4 4 90 cd_X11_ofClass = true := by decide +kernel
set_option maxRecDepth 20000 in
theorem ck_X11_place : chk 11 false 1 cX11_place 3 4 90 cd_X11_place = true := by decide +kernel
set_option maxRecDepth 20000 in
theorem ck_X11_rooted : chk 11 false 1 cX11_rooted 2 4 90 cd_X11_rooted = true := by decide +kernel
set_option maxRecDepth 20000 in
theorem ck_X11_tutte : chk 11 false 1 cX11_tutte 5 3 71 cd_X11_tutte = true := by decide +kernel
set_option maxRecDepth 20000 in
theorem ck_X11_distance : chk 11 false 1 cX11_distance 4 4 93 cd_X11_distance = true := by decide +kernel
set_option maxRecDepth 20000 in
theorem ck_X11_step : chk 11 false 1 cX11_step 5 4 93 cd_X11_step = true := by decide +kernel
set_option maxRecDepth 20000 in
theorem ck_X11_far : chk 11 false 1 cX11_far 4 4 93 cd_X11_far = true := by decide +kernel
set_option maxRecDepth 20000 in
theorem ck_X11_ways : chk 11 false 3 cX11_ways 3 4 95 cd_X11_ways = true := by decide +kernel
set_option maxRecDepth 20000 in
theorem ck_X11_trip : chk 11 false 1 cX11_trip 3 4 93 cd_X11_trip = true := by decide +kernel
set_option maxRecDepth 20000 in
theorem ck_X11_byWord : chk 11 false 1 cX11_byWord 2 3 70 cd_X11_byWord = true := by decide +kernel
set_option maxRecDepth 20000 in
theorem ck_X11_words : chk 11 false 1 cX11_words 4 3 68 cd_X11_words = true := by decide +kernel
set_option maxRecDepth 20000 in
theorem ck_X11_turn : chk 11 false 1 cX11_turn 4 3 70 cd_X11_turn = true := by decide +kernel
set_option maxRecDepth 20000 in
theorem ck_X11_conjugate : chk 11 false 1 cX11_conjugate 4 4 89 cd_X11_conjugate = true := by decide +kernel
set_option maxRecDepth 20000 in
theorem ck_X11_off : chk 11 false 1 cX11_off 3 3 70 cd_X11_off = true := by decide +kernel
set_option maxRecDepth 20000 in
theorem ck_X11_firer : chk 11 false 1 cX11_firer 3 2 44 cd_X11_firer = true := by decide +kernel
set_option maxRecDepth 20000 in
theorem ck_X11_isOfRun : chk 11 false 2 cX11_isOfRun 2 1 21 cd_X11_isOfRun = true := by decide +kernel
set_option maxRecDepth 20000 in
theorem ck_X11_runs : chk 11 false 1 cX11_runs 5 5 121 cd_X11_runs = true := by decide +kernel
set_option maxRecDepth 20000 in
theorem ck_X11_feed : chk 11 false 1 cX11_feed 4 2 43 cd_X11_feed = true := by decide +kernel
set_option maxRecDepth 20000 in
theorem ck_X11_wipe : chk 11 false 1 cX11_wipe 2 0 0 cd_X11_wipe = true := by decide +kernel
set_option maxRecDepth 20000 in
theorem ck_X11_read : chk 11 false 1 cX11_read 2 5 116 cd_X11_read = true := by decide +kernel
set_option maxRecDepth 20000 in
theorem ck_X11_spell : chk 11 false 1 cX11_spell 3 2 43 cd_X11_spell = true := by decide +kernel
set_option maxRecDepth 20000 in
theorem ck_X11_holderAt : chk 11 false 4 cX11_holderAt 2 0 0 cd_X11_holderAt = true := by decide +kernel
set_option maxRecDepth 20000 in
theorem ck_X11_hold : chk 11 false 1 cX11_hold 5 3 70 cd_X11_hold = true := by decide +kernel
set_option maxRecDepth 20000 in
theorem ck_X11_drop : chk 11 false 1 cX11_drop 4 1 23 cd_X11_drop = true := by decide +kernel
set_option maxRecDepth 20000 in
theorem ck_X11_taken : chk 11 false 1 cX11_taken 4 1 21 cd_X11_taken = true := by decide +kernel
set_option maxRecDepth 20000 in
theorem ck_X11_row : chk 11 false 1 cX11_row 4 2 45 cd_X11_row = true := by decide +kernel
set_option maxRecDepth 20000 in
theorem ck_X11_noRow : chk 11 false 1 cX11_noRow 1 0 0 cd_X11_noRow = true := by decide +kernel
set_option maxRecDepth 20000 in
theorem ck_X11_put : chk 11 false 1 cX11_put 6 1 22 cd_X11_put = true := by decide +kernel
set_option maxRecDepth 20000 in
theorem ck_X11_get : chk 11 false 3 cX11_get 4 1 21 cd_X11_get = true := by decide +kernel
set_option maxRecDepth 20000 in
theorem ck_X11_judge : chk 11 false 1 cX11_judge 7 3 65 cd_X11_judge = true := by decide +kernel
set_option maxRecDepth 20000 in
theorem ck_X11_image : chk 11 false 1 cX11_image 1 3 69 cd_X11_image = true := by decide +kernel
set_option maxRecDepth 20000 in
theorem ck_X11_undo : chk 11 false 1 cX11_undo 1 5 116 cd_X11_undo = true := by decide +kernel
set_option maxRecDepth 20000 in
theorem ck_X11_count : chk 11 false 1 cX11_count 2 0 0 cd_X11_count = true := by decide +kernel
set_option maxRecDepth 20000 in
theorem ck_X12_init : chk 12 true 0 cX12_init 1 1 20 cd_X12_init = true := by decide +kernel
set_option maxRecDepth 20000 in
theorem ck_X12_in : chk 12 false 2 cX12_in 3 0 0 cd_X12_in = true := by decide +kernel
set_option maxRecDepth 20000 in
theorem ck_X12_isNode : chk 12 false 2 cX12_isNode 2 1 22 cd_X12_isNode = true := by decide +kernel
set_option maxRecDepth 20000 in
theorem ck_X12_isEdge : chk 12 false 2 cX12_isEdge 2 1 22 cd_X12_isEdge = true := by decide +kernel
set_option maxRecDepth 20000 in
theorem ck_X12_all : chk 12 false 1 cX12_all 1 0 0 cd_X12_all = true := by decide +kernel
set_option maxRecDepth 20000 in
theorem ck_X12_isArrowing : chk 12 false 2 cX12_isArrowing 2 1 22 cd_X12_isArrowing = true := by decide +kernel
set_option maxRecDepth 20000 in
theorem ck_X12_has : chk 12 false 2 cX12_has 2 0 0 cd_X12_has = true := by decide +kernel
set_option maxRecDepth 20000 in
theorem ck_X12_isAt : chk 12 false 2 cX12_isAt 3 0 0 cd_X12_isAt = true := by decide +kernel
set_option maxRecDepth 20000 in
theorem ck_X12_fromOf : chk 12 false 1 cX12_fromOf 3 1 21 cd_X12_fromOf = true := by decide +kernel
set_option maxRecDepth 20000 in
theorem ck_X12_toOf : chk 12 false 1 cX12_toOf 3 1 21 cd_X12_toOf = true := by decide +kernel
set_option maxRecDepth 20000 in
theorem ck_X12_edgesOf : chk 12 false 1 cX12_edgesOf 4 1 22 cd_X12_edgesOf = true := by decide +kernel
set_option maxRecDepth 20000 in
theorem ck_X12_isEnd : chk 12 false 2 cX12_isEnd 6 2 43 cd_X12_isEnd = true := by decide +kernel
set_option maxRecDepth 20000 in
theorem ck_X12_endsOf : chk 12 false 1 cX12_endsOf 5 3 68 cd_X12_endsOf = true := by decide +kernel
set_option maxRecDepth 20000 in
theorem ck_X12_isFree : chk 12 false 2 cX12_isFree 6 2 43 cd_X12_isFree = true := by decide +kernel
set_option maxRecDepth 20000 in
theorem ck_X12_logIsEmpty : chk 12 false 0 cX12_logIsEmpty 1 0 0 cd_X12_logIsEmpty = true := by decide +kernel
set_option maxRecDepth 20000 in
theorem ck_X12_nodes : chk 12 false 1 cX12_nodes 3 1 22 cd_X12_nodes = true := by decide +kernel
set_option maxRecDepth 20000 in
theorem ck_X12_between : chk 12 false 1 cX12_between 5 1 22 cd_X12_between = true := by decide +kernel
set_option maxRecDepth 20000 in
theorem ck_X12_comes : chk 12 false 0 cX12_comes 3 1 21 cd_X12_comes = true := by decide +kernel
set_option maxRecDepth 20000 in
theorem ck_X12_edge : chk 12 false 1 cX12_edge 3 2 46 cd_X12_edge = true := by decide +kernel
set_option maxRecDepth 20000 in
theorem ck_X12_cut : chk 12 false 1 cX12_cut 3 2 43 cd_X12_cut = true := by decide +kernel
set_option maxRecDepth 20000 in
theorem ck_X12_layTree : chk 12 false 0 cX12_layTree 5 0 0 cd_X12_layTree = true := by decide +kernel
set_option maxRecDepth 20000 in
theorem ck_X12_of : chk 12 false 1 cX12_of 3 2 43 cd_X12_of = true := by decide +kernel
set_option maxRecDepth 20000 in
theorem ck_X12_arrows : chk 12 false 1 cX12_arrows 1 0 0 cd_X12_arrows = true := by decide +kernel
set_option maxRecDepth 20000 in
theorem ck_X12_set : chk 12 false 1 cX12_set 3 2 43 cd_X12_set = true := by decide +kernel
set_option maxRecDepth 20000 in
theorem ck_X12_ends : chk 12 false 1 cX12_ends 3 4 92 cd_X12_ends = true := by decide +kernel
set_option maxRecDepth 20000 in
theorem ck_X12_free : chk 12 false 1 cX12_free 2 3 68 cd_X12_free = true := by decide +kernel
set_option maxRecDepth 20000 in
theorem ck_X12_goesOut : chk 12 false 0 cX12_goesOut 4 0 0 cd_X12_goesOut = true := by decide +kernel
set_option maxRecDepth 20000 in
theorem ck_X12_logs : chk 12 false 0 cX12_logs 3 1 23 cd_X12_logs = true := by decide +kernel
set_option maxRecDepth 20000 in
theorem ck_X12_turns : chk 12 false 1 cX12_turns 3 3 68 cd_X12_turns = true := by decide +kernel
set_option maxRecDepth 20000 in
theorem ck_X12_fire : chk 12 false 1 cX12_fire 2 4 90 cd_X12_fire = true := by decide +kernel
set_option maxRecDepth 20000 in
theorem ck_X12_drown : chk 12 false 1 cX12_drown 2 4 90 cd_X12_drown = true := by decide +kernel
set_option maxRecDepth 20000 in
theorem ck_X12_back : chk 12 false 1 cX12_back 1 2 45 cd_X12_back = true := by decide +kernel
set_option maxRecDepth 20000 in
theorem ck_X12_thin : chk 12 false 1 cX12_thin 3 1 23 cd_X12_thin = true := by decide +kernel
set_option maxRecDepth 20000 in
theorem ck_X12_log : chk 12 false 1 cX12_log 3 1 22 cd_X12_log = true := by decide +kernel
set_option maxRecDepth 20000 in
theorem ck_X12_walks : chk 12 false 0 cX12_walks 6 0 0 cd_X12_walks = true := by decide +kernel
set_option maxRecDepth 20000 in
theorem ck_X12_flowOf : chk 12 false 1 cX12_flowOf 7 2 43 cd_X12_flowOf = true := by decide +kernel
set_option maxRecDepth 20000 in
theorem ck_X12_keyOf : chk 12 false 3 cX12_keyOf 5 3 69 cd_X12_keyOf = true := by decide +kernel
set_option maxRecDepth 20000 in
theorem ck_X12_flow : chk 12 false 3 cX12_flow 3 3 69 cd_X12_flow = true := by decide +kernel
set_option maxRecDepth 20000 in
theorem ck_X12_areAlike : chk 12 false 2 cX12_areAlike 3 4 93 cd_X12_areAlike = true := by decide +kernel
set_option maxRecDepth 20000 in
theorem ck_X12_alike : chk 12 false 1 cX12_alike 3 5 115 cd_X12_alike = true := by decide +kernel
set_option maxRecDepth 20000 in
theorem ck_X12_classBy : chk 12 false 1 cX12_classBy 4 0 0 cd_X12_classBy = true := by decide +kernel
set_option maxRecDepth 20000 in
theorem ck_X12_layClasses : chk 12 false 0 cX12_layClasses 5 4 93 cd_X12_layClasses = true := by decide +kernel
set_option maxRecDepth 20000 in
theorem ck_X12_aheadOf : chk 12 false 1 cX12_aheadOf 4 0 0 cd_X12_aheadOf = true := by decide +kernel
set_option maxRecDepth 20000 in
theorem ck_X12_many : chk 12 false 1 cX12_many 2 5 117 cd_X12_many = true := by decide +kernel
set_option maxRecDepth 20000 in
theorem ck_X12_ofClass : chk 12 false 1 cX12_ofClass 4 5 117 cd_X12_ofClass = true := by decide +kernel
set_option maxRecDepth 20000 in
theorem ck_X12_place : chk 12 false 1 cX12_place 2 5 117 cd_X12_place = true := by decide +kernel
set_option maxRecDepth 20000 in
theorem ck_X12_rooted : chk 12 false 1 cX12_rooted 4 4 92 cd_X12_rooted = true := by decide +kernel
set_option maxRecDepth 20000 in
theorem ck_X12_rankOf : chk 12 false 1 cX12_rankOf 7 1 21 cd_X12_rankOf = true := by decide +kernel
set_option maxRecDepth 20000 in
theorem ck_X12_power : chk 12 false 3 cX12_power 5 0 0 cd_X12_power = true := by decide +kernel
set_option maxRecDepth 20000 in
theorem ck_X12_tutte : chk 12 false 1 cX12_tutte 8 2 47 cd_X12_tutte = true := by decide +kernel
set_option maxRecDepth 20000 in
theorem ck_X12_spreads : chk 12 false 0 cX12_spreads 8 3 68 cd_X12_spreads = true := by decide +kernel
set_option maxRecDepth 20000 in
theorem ck_X12_distance : chk 12 false 1 cX12_distance 3 4 95 cd_X12_distance = true := by decide +kernel
set_option maxRecDepth 20000 in
theorem ck_X12_step : chk 12 false 1 cX12_step 4 4 95 cd_X12_step = true := by decide +kernel
set_option maxRecDepth 20000 in
theorem ck_X12_far : chk 12 false 1 cX12_far 5 4 95 cd_X12_far = true := by decide +kernel
set_option maxRecDepth 20000 in
theorem ck_X12_ways : chk 12 false 3 cX12_ways 6 3 68 cd_X12_ways = true := by decide +kernel
set_option maxRecDepth 20000 in
theorem ck_X12_trip : chk 12 false 1 cX12_trip 5 4 95 cd_X12_trip = true := by decide +kernel
set_option maxRecDepth 20000 in
theorem ck_X12_placeIn : chk 12 false 1 cX12_placeIn 5 0 0 cd_X12_placeIn = true := by decide +kernel
set_option maxRecDepth 20000 in
theorem ck_X12_isWord : chk 12 false 2 cX12_isWord 4 1 24 cd_X12_isWord = true := by decide +kernel
set_option maxRecDepth 20000 in
theorem ck_X12_arrowsOf : chk 12 false 1 cX12_arrowsOf 4 1 24 cd_X12_arrowsOf = true := by decide +kernel
set_option maxRecDepth 20000 in
theorem ck_X12_byWord : chk 12 false 1 cX12_byWord 2 2 47 cd_X12_byWord = true := by decide +kernel
set_option maxRecDepth 20000 in
theorem ck_X12_canCome : chk 12 false 2 cX12_canCome 5 2 43 cd_X12_canCome = true := by decide +kernel
set_option maxRecDepth 20000 in
theorem ck_X12_leastWord : chk 12 false 1 cX12_leastWord 6 3 67 cd_X12_leastWord = true := by decide +kernel
set_option maxRecDepth 20000 in
theorem ck_X12_words : chk 12 false 1 cX12_words 6 4 92 cd_X12_words = true := by decide +kernel
set_option maxRecDepth 20000 in
theorem ck_X12_turn : chk 12 false 1 cX12_turn 4 2 47 cd_X12_turn = true := by decide +kernel
set_option maxRecDepth 20000 in
theorem ck_X12_conjugate : chk 12 false 1 cX12_conjugate 3 5 115 cd_X12_conjugate = true := by decide +kernel
set_option maxRecDepth 20000 in
theorem ck_X12_off : chk 12 false 1 cX12_off 6 2 47 cd_X12_off = true := by decide +kernel
set_option maxRecDepth 20000 in
theorem ck_X12_firer : chk 12 false 1 cX12_firer 3 1 22 cd_X12_firer = true := by decide +kernel
set_option maxRecDepth 20000 in
theorem ck_J6_numberOfTrailingZeros_0f7a4 : chk 13 false 1 cJ6_numberOfTrailingZeros_0f7a4 2 0 0 cd_J6_numberOfTrailingZeros_0f7a4 = true := by decide +kernel
set_option maxRecDepth 20000 in
theorem ck_X12_leastOf : chk 12 false 1 cX12_leastOf 1 1 21 cd_X12_leastOf = true := by decide +kernel
set_option maxRecDepth 20000 in
theorem ck_J6_numberOfLeadingZeros_0f7a4 : chk 13 false 1 cJ6_numberOfLeadingZeros_0f7a4 2 0 0 cd_J6_numberOfLeadingZeros_0f7a4 = true := by decide +kernel
set_option maxRecDepth 20000 in
theorem ck_X12_greatestOf : chk 12 false 1 cX12_greatestOf 1 1 21 cd_X12_greatestOf = true := by decide +kernel
set_option maxRecDepth 20000 in
theorem ck_X12_fromBy : chk 12 false 1 cX12_fromBy 4 2 41 cd_X12_fromBy = true := by decide +kernel
set_option maxRecDepth 20000 in
theorem ck_X12_mostOf : chk 12 false 1 cX12_mostOf 7 2 45 cd_X12_mostOf = true := by decide +kernel
set_option maxRecDepth 20000 in
theorem ck_X12_chooses : chk 12 false 1 cX12_chooses 3 3 71 cd_X12_chooses = true := by decide +kernel
set_option maxRecDepth 20000 in
theorem ck_X12_runs : chk 12 false 1 cX12_runs 8 4 93 cd_X12_runs = true := by decide +kernel
set_option maxRecDepth 20000 in
theorem ck_X12_feed : chk 12 false 1 cX12_feed 4 1 22 cd_X12_feed = true := by decide +kernel
set_option maxRecDepth 20000 in
theorem ck_X12_wipe : chk 12 false 1 cX12_wipe 2 0 0 cd_X12_wipe = true := by decide +kernel
set_option maxRecDepth 20000 in
theorem ck_X12_node : chk 12 false 1 cX12_node 1 1 22 cd_X12_node = true := by decide +kernel
set_option maxRecDepth 20000 in
theorem ck_X12_isRead : chk 12 false 2 cX12_isRead 4 0 0 cd_X12_isRead = true := by decide +kernel
set_option maxRecDepth 20000 in
theorem ck_X12_readEdge : chk 12 false 2 cX12_readEdge 3 2 42 cd_X12_readEdge = true := by decide +kernel
set_option maxRecDepth 20000 in
theorem ck_X12_readNet : chk 12 false 2 cX12_readNet 1 3 64 cd_X12_readNet = true := by decide +kernel
set_option maxRecDepth 20000 in
theorem ck_X12_read : chk 12 false 1 cX12_read 4 4 84 cd_X12_read = true := by decide +kernel
set_option maxRecDepth 20000 in
theorem ck_X12_spell : chk 12 false 1 cX12_spell 3 2 43 cd_X12_spell = true := by decide +kernel
set_option maxRecDepth 20000 in
theorem ck_X12_isHolder : chk 12 false 2 cX12_isHolder 1 1 22 cd_X12_isHolder = true := by decide +kernel
set_option maxRecDepth 20000 in
theorem ck_X12_hold : chk 12 false 1 cX12_hold 4 2 47 cd_X12_hold = true := by decide +kernel
set_option maxRecDepth 20000 in
theorem ck_X12_drop : chk 12 false 1 cX12_drop 3 2 42 cd_X12_drop = true := by decide +kernel
set_option maxRecDepth 20000 in
theorem ck_X12_taken : chk 12 false 1 cX12_taken 3 2 42 cd_X12_taken = true := by decide +kernel
set_option maxRecDepth 20000 in
theorem ck_X12_row : chk 12 false 1 cX12_row 4 2 42 cd_X12_row = true := by decide +kernel
set_option maxRecDepth 20000 in
theorem ck_X12_hinders : chk 12 false 1 cX12_hinders 2 2 42 cd_X12_hinders = true := by decide +kernel
set_option maxRecDepth 20000 in
theorem ck_X12_put : chk 12 false 1 cX12_put 5 3 63 cd_X12_put = true := by decide +kernel
set_option maxRecDepth 20000 in
theorem ck_X12_get : chk 12 false 3 cX12_get 3 3 63 cd_X12_get = true := by decide +kernel
set_option maxRecDepth 20000 in
theorem ck_X12_judge : chk 12 false 1 cX12_judge 6 3 69 cd_X12_judge = true := by decide +kernel
set_option maxRecDepth 20000 in
theorem ck_X12_image : chk 12 false 1 cX12_image 2 0 0 cd_X12_image = true := by decide +kernel
set_option maxRecDepth 20000 in
theorem ck_X12_undo : chk 12 false 1 cX12_undo 2 0 0 cd_X12_undo = true := by decide +kernel
set_option maxRecDepth 20000 in
theorem ck_X12_count : chk 12 false 1 cX12_count 2 1 24 cd_X12_count = true := by decide +kernel
