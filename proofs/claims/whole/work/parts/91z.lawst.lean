set_option maxRecDepth 20000 in
theorem st_L_law_0 {d : Nat} {L : am_L} {S : List Value} {Q : Option Value → am_H → Prop} {c : List (Nat × Nat)} {a : Nat → Nat → Int32} {r : Nat → Nat → Option Nat} (hl : 12 ≤ c.length) : AW d 0 0 L S (c, a, r) Q = AW d 0 3 L (.ref c.length :: S) (c ++ [(9, 12)], am_row a c.length (fun _ => 0), am_rowR r c.length (fun _ => none)) Q := AW_n cdn_L_law rfl (if_pos hl)
set_option maxRecDepth 20000 in
theorem st_L_law_3 {d : Nat} {L : am_L} {S : List Value} {h : am_H} {Q : Option Value → am_H → Prop} {x : Nat} : AW d 0 3 L (.ref x :: S) h Q = AW d 0 4 L (.ref x :: .ref x :: S) h Q := AW_n cdn_L_law rfl rfl
set_option maxRecDepth 20000 in
theorem st_L_law_4 {d : Nat} {L : am_L} {S : List Value} {h : am_H} {Q : Option Value → am_H → Prop} {k : Nat}  (hS : (S.map fun v => v.category).sum ≤ 8) : AW (d + 1) 0 4 L (.ref k :: S) h Q = CALL d 71 [.ref k] h (fun v h9 => AW (d + 1) 0 7 L (v.toList ++ S) h9 Q) := AW_c cdn_L_law rfl (if_pos hS)
set_option maxRecDepth 20000 in
theorem st_L_law_7 {d : Nat} {S : List Value} {h : am_H} {Q : Option Value → am_H → Prop} {l0 l1 l2 l3 : Option Value} {x : Nat} : AW d 0 7 [l0, l1, l2, l3] (.ref x :: S) h Q = AW d 0 8 [am_nl l0, some (.ref x), l2, l3] S h Q := AW_n cdn_L_law rfl rfl
set_option maxRecDepth 20000 in
theorem st_L_law_8 {d : Nat} {L : am_L} {S : List Value} {Q : Option Value → am_H → Prop} {c : List (Nat × Nat)} {a : Nat → Nat → Int32} {r : Nat → Nat → Option Nat} (hl : 12 ≤ c.length) : AW d 0 8 L S (c, a, r) Q = AW d 0 11 L (.ref c.length :: S) (c ++ [(10, 50)], am_row a c.length (fun _ => 0), am_rowR r c.length (fun _ => none)) Q := AW_n cdn_L_law rfl (if_pos hl)
set_option maxRecDepth 20000 in
theorem st_L_law_11 {d : Nat} {L : am_L} {S : List Value} {h : am_H} {Q : Option Value → am_H → Prop} {x : Nat} : AW d 0 11 L (.ref x :: S) h Q = AW d 0 12 L (.ref x :: .ref x :: S) h Q := AW_n cdn_L_law rfl rfl
set_option maxRecDepth 20000 in
theorem st_L_law_12 {d : Nat} {L : am_L} {S : List Value} {h : am_H} {Q : Option Value → am_H → Prop} {k : Nat}  (hS : (S.map fun v => v.category).sum ≤ 8) : AW (d + 1) 0 12 L (.ref k :: S) h Q = CALL d 121 [.ref k] h (fun v h9 => AW (d + 1) 0 15 L (v.toList ++ S) h9 Q) := AW_c cdn_L_law rfl (if_pos hS)
set_option maxRecDepth 20000 in
theorem st_L_law_15 {d : Nat} {S : List Value} {h : am_H} {Q : Option Value → am_H → Prop} {l0 l1 l2 l3 : Option Value} {x : Nat} : AW d 0 15 [l0, l1, l2, l3] (.ref x :: S) h Q = AW d 0 16 [l0, am_nl l1, some (.ref x), l3] S h Q := AW_n cdn_L_law rfl rfl
set_option maxRecDepth 20000 in
theorem st_L_law_16 {d : Nat} {L : am_L} {S : List Value} {h : am_H} {Q : Option Value → am_H → Prop} : AW d 0 16 L S h Q = AW d 0 17 L (.int 0 :: S) h Q := AW_n cdn_L_law rfl rfl
set_option maxRecDepth 20000 in
theorem st_L_law_17 {d : Nat} {S : List Value} {h : am_H} {Q : Option Value → am_H → Prop} {l0 l1 l2 l3 : Option Value} {x : Int32} : AW d 0 17 [l0, l1, l2, l3] (.int x :: S) h Q = AW d 0 18 [l0, l1, am_nl l2, some (.int x)] S h Q := AW_n cdn_L_law rfl rfl
set_option maxRecDepth 20000 in
theorem st_L_law_18 {d : Nat} {S : List Value} {h : am_H} {Q : Option Value → am_H → Prop} {l0 l1 l2 : Option Value} {x : Int32} : AW d 0 18 [l0, l1, l2, some (.int x)] S h Q = AW d 0 19 [l0, l1, l2, some (.int x)] (.int x :: S) h Q := AW_n cdn_L_law rfl rfl
set_option maxRecDepth 20000 in
theorem st_L_law_19 {d : Nat} {S : List Value} {h : am_H} {Q : Option Value → am_H → Prop} {l1 l2 l3 : Option Value} {x : Nat} : AW d 0 19 [some (.ref x), l1, l2, l3] S h Q = AW d 0 20 [some (.ref x), l1, l2, l3] (.ref x :: S) h Q := AW_n cdn_L_law rfl rfl
set_option maxRecDepth 20000 in
theorem st_L_law_20 {d : Nat} {L : am_L} {S : List Value} {Q : Option Value → am_H → Prop} {c : List (Nat × Nat)} {a : Nat → Nat → Int32} {r : Nat → Nat → Option Nat} {k : Nat} (ht : am_tag c k = 20) : AW d 0 20 L (.ref k :: S) (c, a, r) Q = AW d 0 21 L (.int (Int32.ofNat (am_len c k)) :: S) (c, a, r) Q := AW_alen cdn_L_law rfl (by decide) ht
set_option maxRecDepth 20000 in
theorem st_L_law_21 {d : Nat} {L : am_L} {S : List Value} {h : am_H} {Q : Option Value → am_H → Prop} : AW d 0 21 L S h Q = AW d 0 23 L (.int 6 :: S) h Q := AW_n cdn_L_law rfl rfl
set_option maxRecDepth 20000 in
theorem st_L_law_23 {d : Nat} {L : am_L} {S : List Value} {h : am_H} {Q : Option Value → am_H → Prop} {x y : Int32} : AW d 0 23 L (.int y :: .int x :: S) h Q = AW d 0 24 L (.int (x - y) :: S) h Q := AW_n cdn_L_law rfl rfl
set_option maxRecDepth 20000 in
theorem st_L_law_24 {d : Nat} {L : am_L} {S : List Value} {h : am_H} {Q : Option Value → am_H → Prop} {x y : Int32} : AW d 0 24 L (.int y :: .int x :: S) h Q = if y < x then AW d 0 1585 L S h Q else AW d 0 27 L S h Q := AW_if cdn_L_law rfl rfl
set_option maxRecDepth 20000 in
theorem st_L_law_27 {d : Nat} {S : List Value} {h : am_H} {Q : Option Value → am_H → Prop} {l1 l2 l3 : Option Value} {x : Nat} : AW d 0 27 [some (.ref x), l1, l2, l3] S h Q = AW d 0 28 [some (.ref x), l1, l2, l3] (.ref x :: S) h Q := AW_n cdn_L_law rfl rfl
set_option maxRecDepth 20000 in
theorem st_L_law_28 {d : Nat} {S : List Value} {h : am_H} {Q : Option Value → am_H → Prop} {l0 l1 l2 : Option Value} {x : Int32} : AW d 0 28 [l0, l1, l2, some (.int x)] S h Q = AW d 0 29 [l0, l1, l2, some (.int x)] (.int x :: S) h Q := AW_n cdn_L_law rfl rfl
set_option maxRecDepth 20000 in
theorem st_L_law_29 {d : Nat} {L : am_L} {S : List Value} {Q : Option Value → am_H → Prop} {c : List (Nat × Nat)} {a : Nat → Nat → Int32} {r : Nat → Nat → Option Nat} {i : Int32} {k : Nat} (ht : am_tag c k = 20) (hi : inb i (am_len c k)) : AW d 0 29 L (.int i :: .ref k :: S) (c, a, r) Q = AW d 0 30 L (.int (a k i.toNatClampNeg) :: S) (c, a, r) Q := AW_ald cdn_L_law rfl (by decide) ht hi
set_option maxRecDepth 20000 in
theorem st_L_law_30 {d : Nat} {L : am_L} {S : List Value} {h : am_H} {Q : Option Value → am_H → Prop} : AW d 0 30 L S h Q = AW d 0 32 L (.int 63 :: S) h Q := AW_n cdn_L_law rfl rfl
set_option maxRecDepth 20000 in
theorem st_L_law_32 {d : Nat} {L : am_L} {S : List Value} {h : am_H} {Q : Option Value → am_H → Prop} {x y : Int32} : AW d 0 32 L (.int y :: .int x :: S) h Q = AW d 0 33 L (.int (x &&& y) :: S) h Q := AW_n cdn_L_law rfl rfl
set_option maxRecDepth 20000 in
theorem st_L_law_33 {d : Nat} {L : am_L} {S : List Value} {h : am_H} {Q : Option Value → am_H → Prop} {x : Int32} : AW d 0 33 L (.int x :: S) h Q = AW d 0 (if x < 0 ∨ 37 ≤ x.toNatClampNeg then 1579 else ([196, 259, 302, 335, 388, 431, 464, 543, 576, 609, 642, 685, 708, 731, 764, 787, 820, 843, 866, 899, 932, 995, 1008, 1041, 1064, 1107, 1130, 1189, 1202, 1245, 1268, 1301, 1364, 1407, 1430, 1483, 1546] : List Nat).getD x.toNatClampNeg 0) L S h Q := AW_table (dt := 1579) (ts := [196, 259, 302, 335, 388, 431, 464, 543, 576, 609, 642, 685, 708, 731, 764, 787, 820, 843, 866, 899, 932, 995, 1008, 1041, 1064, 1107, 1130, 1189, 1202, 1245, 1268, 1301, 1364, 1407, 1430, 1483, 1546]) cdn_L_law rfl
set_option maxRecDepth 20000 in
theorem st_L_law_196 {d : Nat} {S : List Value} {h : am_H} {Q : Option Value → am_H → Prop} {l0 l2 l3 : Option Value} {x : Nat} : AW d 0 196 [l0, some (.ref x), l2, l3] S h Q = AW d 0 197 [l0, some (.ref x), l2, l3] (.ref x :: S) h Q := AW_n cdn_L_law rfl rfl
set_option maxRecDepth 20000 in
theorem st_L_law_197 {d : Nat} {S : List Value} {h : am_H} {Q : Option Value → am_H → Prop} {l1 l2 l3 : Option Value} {x : Nat} : AW d 0 197 [some (.ref x), l1, l2, l3] S h Q = AW d 0 198 [some (.ref x), l1, l2, l3] (.ref x :: S) h Q := AW_n cdn_L_law rfl rfl
set_option maxRecDepth 20000 in
theorem st_L_law_198 {d : Nat} {S : List Value} {h : am_H} {Q : Option Value → am_H → Prop} {l0 l1 l2 : Option Value} {x : Int32} : AW d 0 198 [l0, l1, l2, some (.int x)] S h Q = AW d 0 199 [l0, l1, l2, some (.int x)] (.int x :: S) h Q := AW_n cdn_L_law rfl rfl
set_option maxRecDepth 20000 in
theorem st_L_law_199 {d : Nat} {L : am_L} {S : List Value} {h : am_H} {Q : Option Value → am_H → Prop} : AW d 0 199 L S h Q = AW d 0 200 L (.int 1 :: S) h Q := AW_n cdn_L_law rfl rfl
set_option maxRecDepth 20000 in
theorem st_L_law_200 {d : Nat} {L : am_L} {S : List Value} {h : am_H} {Q : Option Value → am_H → Prop} {x y : Int32} : AW d 0 200 L (.int y :: .int x :: S) h Q = AW d 0 201 L (.int (x + y) :: S) h Q := AW_n cdn_L_law rfl rfl
set_option maxRecDepth 20000 in
theorem st_L_law_201 {d : Nat} {L : am_L} {S : List Value} {Q : Option Value → am_H → Prop} {c : List (Nat × Nat)} {a : Nat → Nat → Int32} {r : Nat → Nat → Option Nat} {i : Int32} {k : Nat} (ht : am_tag c k = 20) (hi : inb i (am_len c k)) : AW d 0 201 L (.int i :: .ref k :: S) (c, a, r) Q = AW d 0 202 L (.int (a k i.toNatClampNeg) :: S) (c, a, r) Q := AW_ald cdn_L_law rfl (by decide) ht hi
set_option maxRecDepth 20000 in
theorem st_L_law_202 {d : Nat} {S : List Value} {h : am_H} {Q : Option Value → am_H → Prop} {l1 l2 l3 : Option Value} {x : Nat} : AW d 0 202 [some (.ref x), l1, l2, l3] S h Q = AW d 0 203 [some (.ref x), l1, l2, l3] (.ref x :: S) h Q := AW_n cdn_L_law rfl rfl
set_option maxRecDepth 20000 in
theorem st_L_law_203 {d : Nat} {S : List Value} {h : am_H} {Q : Option Value → am_H → Prop} {l0 l1 l2 : Option Value} {x : Int32} : AW d 0 203 [l0, l1, l2, some (.int x)] S h Q = AW d 0 204 [l0, l1, l2, some (.int x)] (.int x :: S) h Q := AW_n cdn_L_law rfl rfl
set_option maxRecDepth 20000 in
theorem st_L_law_204 {d : Nat} {L : am_L} {S : List Value} {h : am_H} {Q : Option Value → am_H → Prop} : AW d 0 204 L S h Q = AW d 0 205 L (.int 2 :: S) h Q := AW_n cdn_L_law rfl rfl
set_option maxRecDepth 20000 in
theorem st_L_law_205 {d : Nat} {L : am_L} {S : List Value} {h : am_H} {Q : Option Value → am_H → Prop} {x y : Int32} : AW d 0 205 L (.int y :: .int x :: S) h Q = AW d 0 206 L (.int (x + y) :: S) h Q := AW_n cdn_L_law rfl rfl
set_option maxRecDepth 20000 in
theorem st_L_law_206 {d : Nat} {L : am_L} {S : List Value} {Q : Option Value → am_H → Prop} {c : List (Nat × Nat)} {a : Nat → Nat → Int32} {r : Nat → Nat → Option Nat} {i : Int32} {k : Nat} (ht : am_tag c k = 20) (hi : inb i (am_len c k)) : AW d 0 206 L (.int i :: .ref k :: S) (c, a, r) Q = AW d 0 207 L (.int (a k i.toNatClampNeg) :: S) (c, a, r) Q := AW_ald cdn_L_law rfl (by decide) ht hi
set_option maxRecDepth 20000 in
theorem st_L_law_207 {d : Nat} {S : List Value} {h : am_H} {Q : Option Value → am_H → Prop} {l1 l2 l3 : Option Value} {x : Nat} : AW d 0 207 [some (.ref x), l1, l2, l3] S h Q = AW d 0 208 [some (.ref x), l1, l2, l3] (.ref x :: S) h Q := AW_n cdn_L_law rfl rfl
set_option maxRecDepth 20000 in
theorem st_L_law_208 {d : Nat} {S : List Value} {h : am_H} {Q : Option Value → am_H → Prop} {l0 l1 l2 : Option Value} {x : Int32} : AW d 0 208 [l0, l1, l2, some (.int x)] S h Q = AW d 0 209 [l0, l1, l2, some (.int x)] (.int x :: S) h Q := AW_n cdn_L_law rfl rfl
set_option maxRecDepth 20000 in
theorem st_L_law_209 {d : Nat} {L : am_L} {S : List Value} {h : am_H} {Q : Option Value → am_H → Prop} : AW d 0 209 L S h Q = AW d 0 210 L (.int 3 :: S) h Q := AW_n cdn_L_law rfl rfl
set_option maxRecDepth 20000 in
theorem st_L_law_210 {d : Nat} {L : am_L} {S : List Value} {h : am_H} {Q : Option Value → am_H → Prop} {x y : Int32} : AW d 0 210 L (.int y :: .int x :: S) h Q = AW d 0 211 L (.int (x + y) :: S) h Q := AW_n cdn_L_law rfl rfl
set_option maxRecDepth 20000 in
theorem st_L_law_211 {d : Nat} {L : am_L} {S : List Value} {Q : Option Value → am_H → Prop} {c : List (Nat × Nat)} {a : Nat → Nat → Int32} {r : Nat → Nat → Option Nat} {i : Int32} {k : Nat} (ht : am_tag c k = 20) (hi : inb i (am_len c k)) : AW d 0 211 L (.int i :: .ref k :: S) (c, a, r) Q = AW d 0 212 L (.int (a k i.toNatClampNeg) :: S) (c, a, r) Q := AW_ald cdn_L_law rfl (by decide) ht hi
set_option maxRecDepth 20000 in
theorem st_L_law_212 {d : Nat} {S : List Value} {h : am_H} {Q : Option Value → am_H → Prop} {l1 l2 l3 : Option Value} {x : Nat} : AW d 0 212 [some (.ref x), l1, l2, l3] S h Q = AW d 0 213 [some (.ref x), l1, l2, l3] (.ref x :: S) h Q := AW_n cdn_L_law rfl rfl
set_option maxRecDepth 20000 in
theorem st_L_law_213 {d : Nat} {S : List Value} {h : am_H} {Q : Option Value → am_H → Prop} {l0 l1 l2 : Option Value} {x : Int32} : AW d 0 213 [l0, l1, l2, some (.int x)] S h Q = AW d 0 214 [l0, l1, l2, some (.int x)] (.int x :: S) h Q := AW_n cdn_L_law rfl rfl
set_option maxRecDepth 20000 in
theorem st_L_law_214 {d : Nat} {L : am_L} {S : List Value} {h : am_H} {Q : Option Value → am_H → Prop} : AW d 0 214 L S h Q = AW d 0 215 L (.int 4 :: S) h Q := AW_n cdn_L_law rfl rfl
set_option maxRecDepth 20000 in
theorem st_L_law_215 {d : Nat} {L : am_L} {S : List Value} {h : am_H} {Q : Option Value → am_H → Prop} {x y : Int32} : AW d 0 215 L (.int y :: .int x :: S) h Q = AW d 0 216 L (.int (x + y) :: S) h Q := AW_n cdn_L_law rfl rfl
set_option maxRecDepth 20000 in
theorem st_L_law_216 {d : Nat} {L : am_L} {S : List Value} {Q : Option Value → am_H → Prop} {c : List (Nat × Nat)} {a : Nat → Nat → Int32} {r : Nat → Nat → Option Nat} {i : Int32} {k : Nat} (ht : am_tag c k = 20) (hi : inb i (am_len c k)) : AW d 0 216 L (.int i :: .ref k :: S) (c, a, r) Q = AW d 0 217 L (.int (a k i.toNatClampNeg) :: S) (c, a, r) Q := AW_ald cdn_L_law rfl (by decide) ht hi
set_option maxRecDepth 20000 in
theorem st_L_law_217 {d : Nat} {S : List Value} {h : am_H} {Q : Option Value → am_H → Prop} {l1 l2 l3 : Option Value} {x : Nat} : AW d 0 217 [some (.ref x), l1, l2, l3] S h Q = AW d 0 218 [some (.ref x), l1, l2, l3] (.ref x :: S) h Q := AW_n cdn_L_law rfl rfl
set_option maxRecDepth 20000 in
theorem st_L_law_218 {d : Nat} {S : List Value} {h : am_H} {Q : Option Value → am_H → Prop} {l0 l1 l2 : Option Value} {x : Int32} : AW d 0 218 [l0, l1, l2, some (.int x)] S h Q = AW d 0 219 [l0, l1, l2, some (.int x)] (.int x :: S) h Q := AW_n cdn_L_law rfl rfl
set_option maxRecDepth 20000 in
theorem st_L_law_219 {d : Nat} {L : am_L} {S : List Value} {h : am_H} {Q : Option Value → am_H → Prop} : AW d 0 219 L S h Q = AW d 0 220 L (.int 5 :: S) h Q := AW_n cdn_L_law rfl rfl
set_option maxRecDepth 20000 in
theorem st_L_law_220 {d : Nat} {L : am_L} {S : List Value} {h : am_H} {Q : Option Value → am_H → Prop} {x y : Int32} : AW d 0 220 L (.int y :: .int x :: S) h Q = AW d 0 221 L (.int (x + y) :: S) h Q := AW_n cdn_L_law rfl rfl
set_option maxRecDepth 20000 in
theorem st_L_law_221 {d : Nat} {L : am_L} {S : List Value} {Q : Option Value → am_H → Prop} {c : List (Nat × Nat)} {a : Nat → Nat → Int32} {r : Nat → Nat → Option Nat} {i : Int32} {k : Nat} (ht : am_tag c k = 20) (hi : inb i (am_len c k)) : AW d 0 221 L (.int i :: .ref k :: S) (c, a, r) Q = AW d 0 222 L (.int (a k i.toNatClampNeg) :: S) (c, a, r) Q := AW_ald cdn_L_law rfl (by decide) ht hi
set_option maxRecDepth 20000 in
theorem st_L_law_222 {d : Nat} {L : am_L} {S : List Value} {Q : Option Value → am_H → Prop} {c : List (Nat × Nat)} {a : Nat → Nat → Int32} {r : Nat → Nat → Option Nat} {k : Nat} {x1 : Int32} {x2 : Int32} {x3 : Int32} {x4 : Int32} {x5 : Int32} (ht : am_tag c k = 9) (hS : (S.map fun v => v.category).sum ≤ 8) : AW (d + 1) 0 222 L (.int x5 :: .int x4 :: .int x3 :: .int x2 :: .int x1 :: .ref k :: S) (c, a, r) Q = CALL d 72 [.ref k, .int x1, .int x2, .int x3, .int x4, .int x5] (c, a, r) (fun v h9 => AW (d + 1) 0 225 L (v.toList ++ S) h9 Q) := AW_invV (n := 5) (t := [.int x5, .int x4, .int x3, .int x2, .int x1]) cdn_L_law rfl (by decide) (Nat.le_of_ble_eq_true rfl) rfl rfl ht hS
set_option maxRecDepth 20000 in
theorem st_L_law_225 {d : Nat} {S : List Value} {h : am_H} {Q : Option Value → am_H → Prop} {l0 l1 l3 : Option Value} {x : Nat} : AW d 0 225 [l0, l1, some (.ref x), l3] S h Q = AW d 0 226 [l0, l1, some (.ref x), l3] (.ref x :: S) h Q := AW_n cdn_L_law rfl rfl
set_option maxRecDepth 20000 in
theorem st_L_law_226 {d : Nat} {S : List Value} {h : am_H} {Q : Option Value → am_H → Prop} {l1 l2 l3 : Option Value} {x : Nat} : AW d 0 226 [some (.ref x), l1, l2, l3] S h Q = AW d 0 227 [some (.ref x), l1, l2, l3] (.ref x :: S) h Q := AW_n cdn_L_law rfl rfl
set_option maxRecDepth 20000 in
theorem st_L_law_227 {d : Nat} {S : List Value} {h : am_H} {Q : Option Value → am_H → Prop} {l0 l1 l2 : Option Value} {x : Int32} : AW d 0 227 [l0, l1, l2, some (.int x)] S h Q = AW d 0 228 [l0, l1, l2, some (.int x)] (.int x :: S) h Q := AW_n cdn_L_law rfl rfl
set_option maxRecDepth 20000 in
theorem st_L_law_228 {d : Nat} {L : am_L} {S : List Value} {h : am_H} {Q : Option Value → am_H → Prop} : AW d 0 228 L S h Q = AW d 0 229 L (.int 1 :: S) h Q := AW_n cdn_L_law rfl rfl
set_option maxRecDepth 20000 in
theorem st_L_law_229 {d : Nat} {L : am_L} {S : List Value} {h : am_H} {Q : Option Value → am_H → Prop} {x y : Int32} : AW d 0 229 L (.int y :: .int x :: S) h Q = AW d 0 230 L (.int (x + y) :: S) h Q := AW_n cdn_L_law rfl rfl
set_option maxRecDepth 20000 in
theorem st_L_law_230 {d : Nat} {L : am_L} {S : List Value} {Q : Option Value → am_H → Prop} {c : List (Nat × Nat)} {a : Nat → Nat → Int32} {r : Nat → Nat → Option Nat} {i : Int32} {k : Nat} (ht : am_tag c k = 20) (hi : inb i (am_len c k)) : AW d 0 230 L (.int i :: .ref k :: S) (c, a, r) Q = AW d 0 231 L (.int (a k i.toNatClampNeg) :: S) (c, a, r) Q := AW_ald cdn_L_law rfl (by decide) ht hi
set_option maxRecDepth 20000 in
theorem st_L_law_231 {d : Nat} {S : List Value} {h : am_H} {Q : Option Value → am_H → Prop} {l1 l2 l3 : Option Value} {x : Nat} : AW d 0 231 [some (.ref x), l1, l2, l3] S h Q = AW d 0 232 [some (.ref x), l1, l2, l3] (.ref x :: S) h Q := AW_n cdn_L_law rfl rfl
set_option maxRecDepth 20000 in
theorem st_L_law_232 {d : Nat} {S : List Value} {h : am_H} {Q : Option Value → am_H → Prop} {l0 l1 l2 : Option Value} {x : Int32} : AW d 0 232 [l0, l1, l2, some (.int x)] S h Q = AW d 0 233 [l0, l1, l2, some (.int x)] (.int x :: S) h Q := AW_n cdn_L_law rfl rfl
set_option maxRecDepth 20000 in
theorem st_L_law_233 {d : Nat} {L : am_L} {S : List Value} {h : am_H} {Q : Option Value → am_H → Prop} : AW d 0 233 L S h Q = AW d 0 234 L (.int 2 :: S) h Q := AW_n cdn_L_law rfl rfl
set_option maxRecDepth 20000 in
theorem st_L_law_234 {d : Nat} {L : am_L} {S : List Value} {h : am_H} {Q : Option Value → am_H → Prop} {x y : Int32} : AW d 0 234 L (.int y :: .int x :: S) h Q = AW d 0 235 L (.int (x + y) :: S) h Q := AW_n cdn_L_law rfl rfl
set_option maxRecDepth 20000 in
theorem st_L_law_235 {d : Nat} {L : am_L} {S : List Value} {Q : Option Value → am_H → Prop} {c : List (Nat × Nat)} {a : Nat → Nat → Int32} {r : Nat → Nat → Option Nat} {i : Int32} {k : Nat} (ht : am_tag c k = 20) (hi : inb i (am_len c k)) : AW d 0 235 L (.int i :: .ref k :: S) (c, a, r) Q = AW d 0 236 L (.int (a k i.toNatClampNeg) :: S) (c, a, r) Q := AW_ald cdn_L_law rfl (by decide) ht hi
set_option maxRecDepth 20000 in
theorem st_L_law_236 {d : Nat} {S : List Value} {h : am_H} {Q : Option Value → am_H → Prop} {l1 l2 l3 : Option Value} {x : Nat} : AW d 0 236 [some (.ref x), l1, l2, l3] S h Q = AW d 0 237 [some (.ref x), l1, l2, l3] (.ref x :: S) h Q := AW_n cdn_L_law rfl rfl
set_option maxRecDepth 20000 in
theorem st_L_law_237 {d : Nat} {S : List Value} {h : am_H} {Q : Option Value → am_H → Prop} {l0 l1 l2 : Option Value} {x : Int32} : AW d 0 237 [l0, l1, l2, some (.int x)] S h Q = AW d 0 238 [l0, l1, l2, some (.int x)] (.int x :: S) h Q := AW_n cdn_L_law rfl rfl
set_option maxRecDepth 20000 in
theorem st_L_law_238 {d : Nat} {L : am_L} {S : List Value} {h : am_H} {Q : Option Value → am_H → Prop} : AW d 0 238 L S h Q = AW d 0 239 L (.int 3 :: S) h Q := AW_n cdn_L_law rfl rfl
set_option maxRecDepth 20000 in
theorem st_L_law_239 {d : Nat} {L : am_L} {S : List Value} {h : am_H} {Q : Option Value → am_H → Prop} {x y : Int32} : AW d 0 239 L (.int y :: .int x :: S) h Q = AW d 0 240 L (.int (x + y) :: S) h Q := AW_n cdn_L_law rfl rfl
set_option maxRecDepth 20000 in
theorem st_L_law_240 {d : Nat} {L : am_L} {S : List Value} {Q : Option Value → am_H → Prop} {c : List (Nat × Nat)} {a : Nat → Nat → Int32} {r : Nat → Nat → Option Nat} {i : Int32} {k : Nat} (ht : am_tag c k = 20) (hi : inb i (am_len c k)) : AW d 0 240 L (.int i :: .ref k :: S) (c, a, r) Q = AW d 0 241 L (.int (a k i.toNatClampNeg) :: S) (c, a, r) Q := AW_ald cdn_L_law rfl (by decide) ht hi
set_option maxRecDepth 20000 in
theorem st_L_law_241 {d : Nat} {S : List Value} {h : am_H} {Q : Option Value → am_H → Prop} {l1 l2 l3 : Option Value} {x : Nat} : AW d 0 241 [some (.ref x), l1, l2, l3] S h Q = AW d 0 242 [some (.ref x), l1, l2, l3] (.ref x :: S) h Q := AW_n cdn_L_law rfl rfl
set_option maxRecDepth 20000 in
theorem st_L_law_242 {d : Nat} {S : List Value} {h : am_H} {Q : Option Value → am_H → Prop} {l0 l1 l2 : Option Value} {x : Int32} : AW d 0 242 [l0, l1, l2, some (.int x)] S h Q = AW d 0 243 [l0, l1, l2, some (.int x)] (.int x :: S) h Q := AW_n cdn_L_law rfl rfl
set_option maxRecDepth 20000 in
theorem st_L_law_243 {d : Nat} {L : am_L} {S : List Value} {h : am_H} {Q : Option Value → am_H → Prop} : AW d 0 243 L S h Q = AW d 0 244 L (.int 4 :: S) h Q := AW_n cdn_L_law rfl rfl
set_option maxRecDepth 20000 in
theorem st_L_law_244 {d : Nat} {L : am_L} {S : List Value} {h : am_H} {Q : Option Value → am_H → Prop} {x y : Int32} : AW d 0 244 L (.int y :: .int x :: S) h Q = AW d 0 245 L (.int (x + y) :: S) h Q := AW_n cdn_L_law rfl rfl
set_option maxRecDepth 20000 in
theorem st_L_law_245 {d : Nat} {L : am_L} {S : List Value} {Q : Option Value → am_H → Prop} {c : List (Nat × Nat)} {a : Nat → Nat → Int32} {r : Nat → Nat → Option Nat} {i : Int32} {k : Nat} (ht : am_tag c k = 20) (hi : inb i (am_len c k)) : AW d 0 245 L (.int i :: .ref k :: S) (c, a, r) Q = AW d 0 246 L (.int (a k i.toNatClampNeg) :: S) (c, a, r) Q := AW_ald cdn_L_law rfl (by decide) ht hi
set_option maxRecDepth 20000 in
theorem st_L_law_246 {d : Nat} {S : List Value} {h : am_H} {Q : Option Value → am_H → Prop} {l1 l2 l3 : Option Value} {x : Nat} : AW d 0 246 [some (.ref x), l1, l2, l3] S h Q = AW d 0 247 [some (.ref x), l1, l2, l3] (.ref x :: S) h Q := AW_n cdn_L_law rfl rfl
set_option maxRecDepth 20000 in
theorem st_L_law_247 {d : Nat} {S : List Value} {h : am_H} {Q : Option Value → am_H → Prop} {l0 l1 l2 : Option Value} {x : Int32} : AW d 0 247 [l0, l1, l2, some (.int x)] S h Q = AW d 0 248 [l0, l1, l2, some (.int x)] (.int x :: S) h Q := AW_n cdn_L_law rfl rfl
set_option maxRecDepth 20000 in
theorem st_L_law_248 {d : Nat} {L : am_L} {S : List Value} {h : am_H} {Q : Option Value → am_H → Prop} : AW d 0 248 L S h Q = AW d 0 249 L (.int 5 :: S) h Q := AW_n cdn_L_law rfl rfl
set_option maxRecDepth 20000 in
theorem st_L_law_249 {d : Nat} {L : am_L} {S : List Value} {h : am_H} {Q : Option Value → am_H → Prop} {x y : Int32} : AW d 0 249 L (.int y :: .int x :: S) h Q = AW d 0 250 L (.int (x + y) :: S) h Q := AW_n cdn_L_law rfl rfl
set_option maxRecDepth 20000 in
theorem st_L_law_250 {d : Nat} {L : am_L} {S : List Value} {Q : Option Value → am_H → Prop} {c : List (Nat × Nat)} {a : Nat → Nat → Int32} {r : Nat → Nat → Option Nat} {i : Int32} {k : Nat} (ht : am_tag c k = 20) (hi : inb i (am_len c k)) : AW d 0 250 L (.int i :: .ref k :: S) (c, a, r) Q = AW d 0 251 L (.int (a k i.toNatClampNeg) :: S) (c, a, r) Q := AW_ald cdn_L_law rfl (by decide) ht hi
set_option maxRecDepth 20000 in
theorem st_L_law_251 {d : Nat} {L : am_L} {S : List Value} {Q : Option Value → am_H → Prop} {c : List (Nat × Nat)} {a : Nat → Nat → Int32} {r : Nat → Nat → Option Nat} {k : Nat} {x1 : Int32} {x2 : Int32} {x3 : Int32} {x4 : Int32} {x5 : Int32} (ht : am_tag c k = 10) (hS : (S.map fun v => v.category).sum ≤ 8) : AW (d + 1) 0 251 L (.int x5 :: .int x4 :: .int x3 :: .int x2 :: .int x1 :: .ref k :: S) (c, a, r) Q = CALL d 125 [.ref k, .int x1, .int x2, .int x3, .int x4, .int x5] (c, a, r) (fun v h9 => AW (d + 1) 0 254 L (v.toList ++ S) h9 Q) := AW_invV (n := 5) (t := [.int x5, .int x4, .int x3, .int x2, .int x1]) cdn_L_law rfl (by decide) (Nat.le_of_ble_eq_true rfl) rfl rfl ht hS
set_option maxRecDepth 20000 in
theorem st_L_law_254 {d : Nat} {L : am_L} {S : List Value} {h : am_H} {Q : Option Value → am_H → Prop} {x y : Int32} : AW d 0 254 L (.int y :: .int x :: S) h Q = if x = y then AW d 0 1579 L S h Q else AW d 0 257 L S h Q := AW_if cdn_L_law rfl rfl
set_option maxRecDepth 20000 in
theorem st_L_law_257 {d : Nat} {L : am_L} {S : List Value} {h : am_H} {Q : Option Value → am_H → Prop} : AW d 0 257 L S h Q = AW d 0 258 L (.int 0 :: S) h Q := AW_n cdn_L_law rfl rfl
set_option maxRecDepth 20000 in
theorem st_L_law_258 {d : Nat} {L : am_L} {h : am_H} {Q : Option Value → am_H → Prop} {x : Int32} (hx : x = 0 ∨ x = 1) : AW d 0 258 L [.int x] h Q = Q (some (.int x)) h := AW_zret cdn_L_law rfl hx
set_option maxRecDepth 20000 in
theorem st_L_law_259 {d : Nat} {S : List Value} {h : am_H} {Q : Option Value → am_H → Prop} {l0 l2 l3 : Option Value} {x : Nat} : AW d 0 259 [l0, some (.ref x), l2, l3] S h Q = AW d 0 260 [l0, some (.ref x), l2, l3] (.ref x :: S) h Q := AW_n cdn_L_law rfl rfl
set_option maxRecDepth 20000 in
theorem st_L_law_260 {d : Nat} {S : List Value} {h : am_H} {Q : Option Value → am_H → Prop} {l1 l2 l3 : Option Value} {x : Nat} : AW d 0 260 [some (.ref x), l1, l2, l3] S h Q = AW d 0 261 [some (.ref x), l1, l2, l3] (.ref x :: S) h Q := AW_n cdn_L_law rfl rfl
set_option maxRecDepth 20000 in
theorem st_L_law_261 {d : Nat} {S : List Value} {h : am_H} {Q : Option Value → am_H → Prop} {l0 l1 l2 : Option Value} {x : Int32} : AW d 0 261 [l0, l1, l2, some (.int x)] S h Q = AW d 0 262 [l0, l1, l2, some (.int x)] (.int x :: S) h Q := AW_n cdn_L_law rfl rfl
set_option maxRecDepth 20000 in
theorem st_L_law_262 {d : Nat} {L : am_L} {S : List Value} {h : am_H} {Q : Option Value → am_H → Prop} : AW d 0 262 L S h Q = AW d 0 263 L (.int 1 :: S) h Q := AW_n cdn_L_law rfl rfl
set_option maxRecDepth 20000 in
theorem st_L_law_263 {d : Nat} {L : am_L} {S : List Value} {h : am_H} {Q : Option Value → am_H → Prop} {x y : Int32} : AW d 0 263 L (.int y :: .int x :: S) h Q = AW d 0 264 L (.int (x + y) :: S) h Q := AW_n cdn_L_law rfl rfl
set_option maxRecDepth 20000 in
theorem st_L_law_264 {d : Nat} {L : am_L} {S : List Value} {Q : Option Value → am_H → Prop} {c : List (Nat × Nat)} {a : Nat → Nat → Int32} {r : Nat → Nat → Option Nat} {i : Int32} {k : Nat} (ht : am_tag c k = 20) (hi : inb i (am_len c k)) : AW d 0 264 L (.int i :: .ref k :: S) (c, a, r) Q = AW d 0 265 L (.int (a k i.toNatClampNeg) :: S) (c, a, r) Q := AW_ald cdn_L_law rfl (by decide) ht hi
set_option maxRecDepth 20000 in
theorem st_L_law_265 {d : Nat} {S : List Value} {h : am_H} {Q : Option Value → am_H → Prop} {l1 l2 l3 : Option Value} {x : Nat} : AW d 0 265 [some (.ref x), l1, l2, l3] S h Q = AW d 0 266 [some (.ref x), l1, l2, l3] (.ref x :: S) h Q := AW_n cdn_L_law rfl rfl
set_option maxRecDepth 20000 in
theorem st_L_law_266 {d : Nat} {S : List Value} {h : am_H} {Q : Option Value → am_H → Prop} {l0 l1 l2 : Option Value} {x : Int32} : AW d 0 266 [l0, l1, l2, some (.int x)] S h Q = AW d 0 267 [l0, l1, l2, some (.int x)] (.int x :: S) h Q := AW_n cdn_L_law rfl rfl
set_option maxRecDepth 20000 in
theorem st_L_law_267 {d : Nat} {L : am_L} {S : List Value} {h : am_H} {Q : Option Value → am_H → Prop} : AW d 0 267 L S h Q = AW d 0 268 L (.int 2 :: S) h Q := AW_n cdn_L_law rfl rfl
set_option maxRecDepth 20000 in
theorem st_L_law_268 {d : Nat} {L : am_L} {S : List Value} {h : am_H} {Q : Option Value → am_H → Prop} {x y : Int32} : AW d 0 268 L (.int y :: .int x :: S) h Q = AW d 0 269 L (.int (x + y) :: S) h Q := AW_n cdn_L_law rfl rfl
set_option maxRecDepth 20000 in
theorem st_L_law_269 {d : Nat} {L : am_L} {S : List Value} {Q : Option Value → am_H → Prop} {c : List (Nat × Nat)} {a : Nat → Nat → Int32} {r : Nat → Nat → Option Nat} {i : Int32} {k : Nat} (ht : am_tag c k = 20) (hi : inb i (am_len c k)) : AW d 0 269 L (.int i :: .ref k :: S) (c, a, r) Q = AW d 0 270 L (.int (a k i.toNatClampNeg) :: S) (c, a, r) Q := AW_ald cdn_L_law rfl (by decide) ht hi
set_option maxRecDepth 20000 in
theorem st_L_law_270 {d : Nat} {S : List Value} {h : am_H} {Q : Option Value → am_H → Prop} {l1 l2 l3 : Option Value} {x : Nat} : AW d 0 270 [some (.ref x), l1, l2, l3] S h Q = AW d 0 271 [some (.ref x), l1, l2, l3] (.ref x :: S) h Q := AW_n cdn_L_law rfl rfl
set_option maxRecDepth 20000 in
theorem st_L_law_271 {d : Nat} {S : List Value} {h : am_H} {Q : Option Value → am_H → Prop} {l0 l1 l2 : Option Value} {x : Int32} : AW d 0 271 [l0, l1, l2, some (.int x)] S h Q = AW d 0 272 [l0, l1, l2, some (.int x)] (.int x :: S) h Q := AW_n cdn_L_law rfl rfl
set_option maxRecDepth 20000 in
theorem st_L_law_272 {d : Nat} {L : am_L} {S : List Value} {h : am_H} {Q : Option Value → am_H → Prop} : AW d 0 272 L S h Q = AW d 0 273 L (.int 3 :: S) h Q := AW_n cdn_L_law rfl rfl
set_option maxRecDepth 20000 in
theorem st_L_law_273 {d : Nat} {L : am_L} {S : List Value} {h : am_H} {Q : Option Value → am_H → Prop} {x y : Int32} : AW d 0 273 L (.int y :: .int x :: S) h Q = AW d 0 274 L (.int (x + y) :: S) h Q := AW_n cdn_L_law rfl rfl
set_option maxRecDepth 20000 in
theorem st_L_law_274 {d : Nat} {L : am_L} {S : List Value} {Q : Option Value → am_H → Prop} {c : List (Nat × Nat)} {a : Nat → Nat → Int32} {r : Nat → Nat → Option Nat} {i : Int32} {k : Nat} (ht : am_tag c k = 20) (hi : inb i (am_len c k)) : AW d 0 274 L (.int i :: .ref k :: S) (c, a, r) Q = AW d 0 275 L (.int (a k i.toNatClampNeg) :: S) (c, a, r) Q := AW_ald cdn_L_law rfl (by decide) ht hi
set_option maxRecDepth 20000 in
theorem st_L_law_275 {d : Nat} {L : am_L} {S : List Value} {Q : Option Value → am_H → Prop} {c : List (Nat × Nat)} {a : Nat → Nat → Int32} {r : Nat → Nat → Option Nat} {k : Nat} {x1 : Int32} {x2 : Int32} {x3 : Int32} (ht : am_tag c k = 9) (hS : (S.map fun v => v.category).sum ≤ 8) : AW (d + 1) 0 275 L (.int x3 :: .int x2 :: .int x1 :: .ref k :: S) (c, a, r) Q = CALL d 73 [.ref k, .int x1, .int x2, .int x3] (c, a, r) (fun v h9 => AW (d + 1) 0 278 L (v.toList ++ S) h9 Q) := AW_invV (n := 3) (t := [.int x3, .int x2, .int x1]) cdn_L_law rfl (by decide) (Nat.le_of_ble_eq_true rfl) rfl rfl ht hS
set_option maxRecDepth 20000 in
theorem st_L_law_278 {d : Nat} {S : List Value} {h : am_H} {Q : Option Value → am_H → Prop} {l0 l1 l3 : Option Value} {x : Nat} : AW d 0 278 [l0, l1, some (.ref x), l3] S h Q = AW d 0 279 [l0, l1, some (.ref x), l3] (.ref x :: S) h Q := AW_n cdn_L_law rfl rfl
set_option maxRecDepth 20000 in
theorem st_L_law_279 {d : Nat} {S : List Value} {h : am_H} {Q : Option Value → am_H → Prop} {l1 l2 l3 : Option Value} {x : Nat} : AW d 0 279 [some (.ref x), l1, l2, l3] S h Q = AW d 0 280 [some (.ref x), l1, l2, l3] (.ref x :: S) h Q := AW_n cdn_L_law rfl rfl
set_option maxRecDepth 20000 in
theorem st_L_law_280 {d : Nat} {S : List Value} {h : am_H} {Q : Option Value → am_H → Prop} {l0 l1 l2 : Option Value} {x : Int32} : AW d 0 280 [l0, l1, l2, some (.int x)] S h Q = AW d 0 281 [l0, l1, l2, some (.int x)] (.int x :: S) h Q := AW_n cdn_L_law rfl rfl
set_option maxRecDepth 20000 in
theorem st_L_law_281 {d : Nat} {L : am_L} {S : List Value} {h : am_H} {Q : Option Value → am_H → Prop} : AW d 0 281 L S h Q = AW d 0 282 L (.int 1 :: S) h Q := AW_n cdn_L_law rfl rfl
set_option maxRecDepth 20000 in
theorem st_L_law_282 {d : Nat} {L : am_L} {S : List Value} {h : am_H} {Q : Option Value → am_H → Prop} {x y : Int32} : AW d 0 282 L (.int y :: .int x :: S) h Q = AW d 0 283 L (.int (x + y) :: S) h Q := AW_n cdn_L_law rfl rfl
set_option maxRecDepth 20000 in
theorem st_L_law_283 {d : Nat} {L : am_L} {S : List Value} {Q : Option Value → am_H → Prop} {c : List (Nat × Nat)} {a : Nat → Nat → Int32} {r : Nat → Nat → Option Nat} {i : Int32} {k : Nat} (ht : am_tag c k = 20) (hi : inb i (am_len c k)) : AW d 0 283 L (.int i :: .ref k :: S) (c, a, r) Q = AW d 0 284 L (.int (a k i.toNatClampNeg) :: S) (c, a, r) Q := AW_ald cdn_L_law rfl (by decide) ht hi
set_option maxRecDepth 20000 in
theorem st_L_law_284 {d : Nat} {S : List Value} {h : am_H} {Q : Option Value → am_H → Prop} {l1 l2 l3 : Option Value} {x : Nat} : AW d 0 284 [some (.ref x), l1, l2, l3] S h Q = AW d 0 285 [some (.ref x), l1, l2, l3] (.ref x :: S) h Q := AW_n cdn_L_law rfl rfl
set_option maxRecDepth 20000 in
theorem st_L_law_285 {d : Nat} {S : List Value} {h : am_H} {Q : Option Value → am_H → Prop} {l0 l1 l2 : Option Value} {x : Int32} : AW d 0 285 [l0, l1, l2, some (.int x)] S h Q = AW d 0 286 [l0, l1, l2, some (.int x)] (.int x :: S) h Q := AW_n cdn_L_law rfl rfl
set_option maxRecDepth 20000 in
theorem st_L_law_286 {d : Nat} {L : am_L} {S : List Value} {h : am_H} {Q : Option Value → am_H → Prop} : AW d 0 286 L S h Q = AW d 0 287 L (.int 2 :: S) h Q := AW_n cdn_L_law rfl rfl
set_option maxRecDepth 20000 in
theorem st_L_law_287 {d : Nat} {L : am_L} {S : List Value} {h : am_H} {Q : Option Value → am_H → Prop} {x y : Int32} : AW d 0 287 L (.int y :: .int x :: S) h Q = AW d 0 288 L (.int (x + y) :: S) h Q := AW_n cdn_L_law rfl rfl
set_option maxRecDepth 20000 in
theorem st_L_law_288 {d : Nat} {L : am_L} {S : List Value} {Q : Option Value → am_H → Prop} {c : List (Nat × Nat)} {a : Nat → Nat → Int32} {r : Nat → Nat → Option Nat} {i : Int32} {k : Nat} (ht : am_tag c k = 20) (hi : inb i (am_len c k)) : AW d 0 288 L (.int i :: .ref k :: S) (c, a, r) Q = AW d 0 289 L (.int (a k i.toNatClampNeg) :: S) (c, a, r) Q := AW_ald cdn_L_law rfl (by decide) ht hi
set_option maxRecDepth 20000 in
theorem st_L_law_289 {d : Nat} {S : List Value} {h : am_H} {Q : Option Value → am_H → Prop} {l1 l2 l3 : Option Value} {x : Nat} : AW d 0 289 [some (.ref x), l1, l2, l3] S h Q = AW d 0 290 [some (.ref x), l1, l2, l3] (.ref x :: S) h Q := AW_n cdn_L_law rfl rfl
set_option maxRecDepth 20000 in
theorem st_L_law_290 {d : Nat} {S : List Value} {h : am_H} {Q : Option Value → am_H → Prop} {l0 l1 l2 : Option Value} {x : Int32} : AW d 0 290 [l0, l1, l2, some (.int x)] S h Q = AW d 0 291 [l0, l1, l2, some (.int x)] (.int x :: S) h Q := AW_n cdn_L_law rfl rfl
set_option maxRecDepth 20000 in
theorem st_L_law_291 {d : Nat} {L : am_L} {S : List Value} {h : am_H} {Q : Option Value → am_H → Prop} : AW d 0 291 L S h Q = AW d 0 292 L (.int 3 :: S) h Q := AW_n cdn_L_law rfl rfl
set_option maxRecDepth 20000 in
theorem st_L_law_292 {d : Nat} {L : am_L} {S : List Value} {h : am_H} {Q : Option Value → am_H → Prop} {x y : Int32} : AW d 0 292 L (.int y :: .int x :: S) h Q = AW d 0 293 L (.int (x + y) :: S) h Q := AW_n cdn_L_law rfl rfl
set_option maxRecDepth 20000 in
theorem st_L_law_293 {d : Nat} {L : am_L} {S : List Value} {Q : Option Value → am_H → Prop} {c : List (Nat × Nat)} {a : Nat → Nat → Int32} {r : Nat → Nat → Option Nat} {i : Int32} {k : Nat} (ht : am_tag c k = 20) (hi : inb i (am_len c k)) : AW d 0 293 L (.int i :: .ref k :: S) (c, a, r) Q = AW d 0 294 L (.int (a k i.toNatClampNeg) :: S) (c, a, r) Q := AW_ald cdn_L_law rfl (by decide) ht hi
set_option maxRecDepth 20000 in
theorem st_L_law_294 {d : Nat} {L : am_L} {S : List Value} {Q : Option Value → am_H → Prop} {c : List (Nat × Nat)} {a : Nat → Nat → Int32} {r : Nat → Nat → Option Nat} {k : Nat} {x1 : Int32} {x2 : Int32} {x3 : Int32} (ht : am_tag c k = 10) (hS : (S.map fun v => v.category).sum ≤ 8) : AW (d + 1) 0 294 L (.int x3 :: .int x2 :: .int x1 :: .ref k :: S) (c, a, r) Q = CALL d 126 [.ref k, .int x1, .int x2, .int x3] (c, a, r) (fun v h9 => AW (d + 1) 0 297 L (v.toList ++ S) h9 Q) := AW_invV (n := 3) (t := [.int x3, .int x2, .int x1]) cdn_L_law rfl (by decide) (Nat.le_of_ble_eq_true rfl) rfl rfl ht hS
set_option maxRecDepth 20000 in
theorem st_L_law_297 {d : Nat} {L : am_L} {S : List Value} {h : am_H} {Q : Option Value → am_H → Prop} {x y : Int32} : AW d 0 297 L (.int y :: .int x :: S) h Q = if x = y then AW d 0 1579 L S h Q else AW d 0 300 L S h Q := AW_if cdn_L_law rfl rfl
set_option maxRecDepth 20000 in
theorem st_L_law_300 {d : Nat} {L : am_L} {S : List Value} {h : am_H} {Q : Option Value → am_H → Prop} : AW d 0 300 L S h Q = AW d 0 301 L (.int 0 :: S) h Q := AW_n cdn_L_law rfl rfl
set_option maxRecDepth 20000 in
theorem st_L_law_301 {d : Nat} {L : am_L} {h : am_H} {Q : Option Value → am_H → Prop} {x : Int32} (hx : x = 0 ∨ x = 1) : AW d 0 301 L [.int x] h Q = Q (some (.int x)) h := AW_zret cdn_L_law rfl hx
set_option maxRecDepth 20000 in
theorem st_L_law_302 {d : Nat} {S : List Value} {h : am_H} {Q : Option Value → am_H → Prop} {l0 l2 l3 : Option Value} {x : Nat} : AW d 0 302 [l0, some (.ref x), l2, l3] S h Q = AW d 0 303 [l0, some (.ref x), l2, l3] (.ref x :: S) h Q := AW_n cdn_L_law rfl rfl
set_option maxRecDepth 20000 in
theorem st_L_law_303 {d : Nat} {S : List Value} {h : am_H} {Q : Option Value → am_H → Prop} {l1 l2 l3 : Option Value} {x : Nat} : AW d 0 303 [some (.ref x), l1, l2, l3] S h Q = AW d 0 304 [some (.ref x), l1, l2, l3] (.ref x :: S) h Q := AW_n cdn_L_law rfl rfl
set_option maxRecDepth 20000 in
theorem st_L_law_304 {d : Nat} {S : List Value} {h : am_H} {Q : Option Value → am_H → Prop} {l0 l1 l2 : Option Value} {x : Int32} : AW d 0 304 [l0, l1, l2, some (.int x)] S h Q = AW d 0 305 [l0, l1, l2, some (.int x)] (.int x :: S) h Q := AW_n cdn_L_law rfl rfl
set_option maxRecDepth 20000 in
theorem st_L_law_305 {d : Nat} {L : am_L} {S : List Value} {h : am_H} {Q : Option Value → am_H → Prop} : AW d 0 305 L S h Q = AW d 0 306 L (.int 1 :: S) h Q := AW_n cdn_L_law rfl rfl
set_option maxRecDepth 20000 in
theorem st_L_law_306 {d : Nat} {L : am_L} {S : List Value} {h : am_H} {Q : Option Value → am_H → Prop} {x y : Int32} : AW d 0 306 L (.int y :: .int x :: S) h Q = AW d 0 307 L (.int (x + y) :: S) h Q := AW_n cdn_L_law rfl rfl
set_option maxRecDepth 20000 in
theorem st_L_law_307 {d : Nat} {L : am_L} {S : List Value} {Q : Option Value → am_H → Prop} {c : List (Nat × Nat)} {a : Nat → Nat → Int32} {r : Nat → Nat → Option Nat} {i : Int32} {k : Nat} (ht : am_tag c k = 20) (hi : inb i (am_len c k)) : AW d 0 307 L (.int i :: .ref k :: S) (c, a, r) Q = AW d 0 308 L (.int (a k i.toNatClampNeg) :: S) (c, a, r) Q := AW_ald cdn_L_law rfl (by decide) ht hi
set_option maxRecDepth 20000 in
theorem st_L_law_308 {d : Nat} {S : List Value} {h : am_H} {Q : Option Value → am_H → Prop} {l1 l2 l3 : Option Value} {x : Nat} : AW d 0 308 [some (.ref x), l1, l2, l3] S h Q = AW d 0 309 [some (.ref x), l1, l2, l3] (.ref x :: S) h Q := AW_n cdn_L_law rfl rfl
set_option maxRecDepth 20000 in
theorem st_L_law_309 {d : Nat} {S : List Value} {h : am_H} {Q : Option Value → am_H → Prop} {l0 l1 l2 : Option Value} {x : Int32} : AW d 0 309 [l0, l1, l2, some (.int x)] S h Q = AW d 0 310 [l0, l1, l2, some (.int x)] (.int x :: S) h Q := AW_n cdn_L_law rfl rfl
set_option maxRecDepth 20000 in
theorem st_L_law_310 {d : Nat} {L : am_L} {S : List Value} {h : am_H} {Q : Option Value → am_H → Prop} : AW d 0 310 L S h Q = AW d 0 311 L (.int 2 :: S) h Q := AW_n cdn_L_law rfl rfl
set_option maxRecDepth 20000 in
theorem st_L_law_311 {d : Nat} {L : am_L} {S : List Value} {h : am_H} {Q : Option Value → am_H → Prop} {x y : Int32} : AW d 0 311 L (.int y :: .int x :: S) h Q = AW d 0 312 L (.int (x + y) :: S) h Q := AW_n cdn_L_law rfl rfl
set_option maxRecDepth 20000 in
theorem st_L_law_312 {d : Nat} {L : am_L} {S : List Value} {Q : Option Value → am_H → Prop} {c : List (Nat × Nat)} {a : Nat → Nat → Int32} {r : Nat → Nat → Option Nat} {i : Int32} {k : Nat} (ht : am_tag c k = 20) (hi : inb i (am_len c k)) : AW d 0 312 L (.int i :: .ref k :: S) (c, a, r) Q = AW d 0 313 L (.int (a k i.toNatClampNeg) :: S) (c, a, r) Q := AW_ald cdn_L_law rfl (by decide) ht hi
set_option maxRecDepth 20000 in
theorem st_L_law_313 {d : Nat} {L : am_L} {S : List Value} {Q : Option Value → am_H → Prop} {c : List (Nat × Nat)} {a : Nat → Nat → Int32} {r : Nat → Nat → Option Nat} {k : Nat} {x1 : Int32} {x2 : Int32} (ht : am_tag c k = 9) (hS : (S.map fun v => v.category).sum ≤ 8) : AW (d + 1) 0 313 L (.int x2 :: .int x1 :: .ref k :: S) (c, a, r) Q = CALL d 74 [.ref k, .int x1, .int x2] (c, a, r) (fun v h9 => AW (d + 1) 0 316 L (v.toList ++ S) h9 Q) := AW_invV (n := 2) (t := [.int x2, .int x1]) cdn_L_law rfl (by decide) (Nat.le_of_ble_eq_true rfl) rfl rfl ht hS
set_option maxRecDepth 20000 in
theorem st_L_law_316 {d : Nat} {S : List Value} {h : am_H} {Q : Option Value → am_H → Prop} {l0 l1 l3 : Option Value} {x : Nat} : AW d 0 316 [l0, l1, some (.ref x), l3] S h Q = AW d 0 317 [l0, l1, some (.ref x), l3] (.ref x :: S) h Q := AW_n cdn_L_law rfl rfl
set_option maxRecDepth 20000 in
theorem st_L_law_317 {d : Nat} {S : List Value} {h : am_H} {Q : Option Value → am_H → Prop} {l1 l2 l3 : Option Value} {x : Nat} : AW d 0 317 [some (.ref x), l1, l2, l3] S h Q = AW d 0 318 [some (.ref x), l1, l2, l3] (.ref x :: S) h Q := AW_n cdn_L_law rfl rfl
set_option maxRecDepth 20000 in
theorem st_L_law_318 {d : Nat} {S : List Value} {h : am_H} {Q : Option Value → am_H → Prop} {l0 l1 l2 : Option Value} {x : Int32} : AW d 0 318 [l0, l1, l2, some (.int x)] S h Q = AW d 0 319 [l0, l1, l2, some (.int x)] (.int x :: S) h Q := AW_n cdn_L_law rfl rfl
set_option maxRecDepth 20000 in
theorem st_L_law_319 {d : Nat} {L : am_L} {S : List Value} {h : am_H} {Q : Option Value → am_H → Prop} : AW d 0 319 L S h Q = AW d 0 320 L (.int 1 :: S) h Q := AW_n cdn_L_law rfl rfl
set_option maxRecDepth 20000 in
theorem st_L_law_320 {d : Nat} {L : am_L} {S : List Value} {h : am_H} {Q : Option Value → am_H → Prop} {x y : Int32} : AW d 0 320 L (.int y :: .int x :: S) h Q = AW d 0 321 L (.int (x + y) :: S) h Q := AW_n cdn_L_law rfl rfl
set_option maxRecDepth 20000 in
theorem st_L_law_321 {d : Nat} {L : am_L} {S : List Value} {Q : Option Value → am_H → Prop} {c : List (Nat × Nat)} {a : Nat → Nat → Int32} {r : Nat → Nat → Option Nat} {i : Int32} {k : Nat} (ht : am_tag c k = 20) (hi : inb i (am_len c k)) : AW d 0 321 L (.int i :: .ref k :: S) (c, a, r) Q = AW d 0 322 L (.int (a k i.toNatClampNeg) :: S) (c, a, r) Q := AW_ald cdn_L_law rfl (by decide) ht hi
set_option maxRecDepth 20000 in
theorem st_L_law_322 {d : Nat} {S : List Value} {h : am_H} {Q : Option Value → am_H → Prop} {l1 l2 l3 : Option Value} {x : Nat} : AW d 0 322 [some (.ref x), l1, l2, l3] S h Q = AW d 0 323 [some (.ref x), l1, l2, l3] (.ref x :: S) h Q := AW_n cdn_L_law rfl rfl
set_option maxRecDepth 20000 in
theorem st_L_law_323 {d : Nat} {S : List Value} {h : am_H} {Q : Option Value → am_H → Prop} {l0 l1 l2 : Option Value} {x : Int32} : AW d 0 323 [l0, l1, l2, some (.int x)] S h Q = AW d 0 324 [l0, l1, l2, some (.int x)] (.int x :: S) h Q := AW_n cdn_L_law rfl rfl
set_option maxRecDepth 20000 in
theorem st_L_law_324 {d : Nat} {L : am_L} {S : List Value} {h : am_H} {Q : Option Value → am_H → Prop} : AW d 0 324 L S h Q = AW d 0 325 L (.int 2 :: S) h Q := AW_n cdn_L_law rfl rfl
set_option maxRecDepth 20000 in
theorem st_L_law_325 {d : Nat} {L : am_L} {S : List Value} {h : am_H} {Q : Option Value → am_H → Prop} {x y : Int32} : AW d 0 325 L (.int y :: .int x :: S) h Q = AW d 0 326 L (.int (x + y) :: S) h Q := AW_n cdn_L_law rfl rfl
set_option maxRecDepth 20000 in
theorem st_L_law_326 {d : Nat} {L : am_L} {S : List Value} {Q : Option Value → am_H → Prop} {c : List (Nat × Nat)} {a : Nat → Nat → Int32} {r : Nat → Nat → Option Nat} {i : Int32} {k : Nat} (ht : am_tag c k = 20) (hi : inb i (am_len c k)) : AW d 0 326 L (.int i :: .ref k :: S) (c, a, r) Q = AW d 0 327 L (.int (a k i.toNatClampNeg) :: S) (c, a, r) Q := AW_ald cdn_L_law rfl (by decide) ht hi
set_option maxRecDepth 20000 in
theorem st_L_law_327 {d : Nat} {L : am_L} {S : List Value} {Q : Option Value → am_H → Prop} {c : List (Nat × Nat)} {a : Nat → Nat → Int32} {r : Nat → Nat → Option Nat} {k : Nat} {x1 : Int32} {x2 : Int32} (ht : am_tag c k = 10) (hS : (S.map fun v => v.category).sum ≤ 8) : AW (d + 1) 0 327 L (.int x2 :: .int x1 :: .ref k :: S) (c, a, r) Q = CALL d 128 [.ref k, .int x1, .int x2] (c, a, r) (fun v h9 => AW (d + 1) 0 330 L (v.toList ++ S) h9 Q) := AW_invV (n := 2) (t := [.int x2, .int x1]) cdn_L_law rfl (by decide) (Nat.le_of_ble_eq_true rfl) rfl rfl ht hS
set_option maxRecDepth 20000 in
theorem st_L_law_330 {d : Nat} {L : am_L} {S : List Value} {h : am_H} {Q : Option Value → am_H → Prop} {x y : Int32} : AW d 0 330 L (.int y :: .int x :: S) h Q = if x = y then AW d 0 1579 L S h Q else AW d 0 333 L S h Q := AW_if cdn_L_law rfl rfl
set_option maxRecDepth 20000 in
theorem st_L_law_333 {d : Nat} {L : am_L} {S : List Value} {h : am_H} {Q : Option Value → am_H → Prop} : AW d 0 333 L S h Q = AW d 0 334 L (.int 0 :: S) h Q := AW_n cdn_L_law rfl rfl
set_option maxRecDepth 20000 in
theorem st_L_law_334 {d : Nat} {L : am_L} {h : am_H} {Q : Option Value → am_H → Prop} {x : Int32} (hx : x = 0 ∨ x = 1) : AW d 0 334 L [.int x] h Q = Q (some (.int x)) h := AW_zret cdn_L_law rfl hx
set_option maxRecDepth 20000 in
theorem st_L_law_335 {d : Nat} {S : List Value} {h : am_H} {Q : Option Value → am_H → Prop} {l0 l2 l3 : Option Value} {x : Nat} : AW d 0 335 [l0, some (.ref x), l2, l3] S h Q = AW d 0 336 [l0, some (.ref x), l2, l3] (.ref x :: S) h Q := AW_n cdn_L_law rfl rfl
set_option maxRecDepth 20000 in
theorem st_L_law_336 {d : Nat} {S : List Value} {h : am_H} {Q : Option Value → am_H → Prop} {l1 l2 l3 : Option Value} {x : Nat} : AW d 0 336 [some (.ref x), l1, l2, l3] S h Q = AW d 0 337 [some (.ref x), l1, l2, l3] (.ref x :: S) h Q := AW_n cdn_L_law rfl rfl
set_option maxRecDepth 20000 in
theorem st_L_law_337 {d : Nat} {S : List Value} {h : am_H} {Q : Option Value → am_H → Prop} {l0 l1 l2 : Option Value} {x : Int32} : AW d 0 337 [l0, l1, l2, some (.int x)] S h Q = AW d 0 338 [l0, l1, l2, some (.int x)] (.int x :: S) h Q := AW_n cdn_L_law rfl rfl
set_option maxRecDepth 20000 in
theorem st_L_law_338 {d : Nat} {L : am_L} {S : List Value} {h : am_H} {Q : Option Value → am_H → Prop} : AW d 0 338 L S h Q = AW d 0 339 L (.int 1 :: S) h Q := AW_n cdn_L_law rfl rfl
set_option maxRecDepth 20000 in
theorem st_L_law_339 {d : Nat} {L : am_L} {S : List Value} {h : am_H} {Q : Option Value → am_H → Prop} {x y : Int32} : AW d 0 339 L (.int y :: .int x :: S) h Q = AW d 0 340 L (.int (x + y) :: S) h Q := AW_n cdn_L_law rfl rfl
set_option maxRecDepth 20000 in
theorem st_L_law_340 {d : Nat} {L : am_L} {S : List Value} {Q : Option Value → am_H → Prop} {c : List (Nat × Nat)} {a : Nat → Nat → Int32} {r : Nat → Nat → Option Nat} {i : Int32} {k : Nat} (ht : am_tag c k = 20) (hi : inb i (am_len c k)) : AW d 0 340 L (.int i :: .ref k :: S) (c, a, r) Q = AW d 0 341 L (.int (a k i.toNatClampNeg) :: S) (c, a, r) Q := AW_ald cdn_L_law rfl (by decide) ht hi
set_option maxRecDepth 20000 in
theorem st_L_law_341 {d : Nat} {S : List Value} {h : am_H} {Q : Option Value → am_H → Prop} {l1 l2 l3 : Option Value} {x : Nat} : AW d 0 341 [some (.ref x), l1, l2, l3] S h Q = AW d 0 342 [some (.ref x), l1, l2, l3] (.ref x :: S) h Q := AW_n cdn_L_law rfl rfl
set_option maxRecDepth 20000 in
theorem st_L_law_342 {d : Nat} {S : List Value} {h : am_H} {Q : Option Value → am_H → Prop} {l0 l1 l2 : Option Value} {x : Int32} : AW d 0 342 [l0, l1, l2, some (.int x)] S h Q = AW d 0 343 [l0, l1, l2, some (.int x)] (.int x :: S) h Q := AW_n cdn_L_law rfl rfl
set_option maxRecDepth 20000 in
theorem st_L_law_343 {d : Nat} {L : am_L} {S : List Value} {h : am_H} {Q : Option Value → am_H → Prop} : AW d 0 343 L S h Q = AW d 0 344 L (.int 2 :: S) h Q := AW_n cdn_L_law rfl rfl
set_option maxRecDepth 20000 in
theorem st_L_law_344 {d : Nat} {L : am_L} {S : List Value} {h : am_H} {Q : Option Value → am_H → Prop} {x y : Int32} : AW d 0 344 L (.int y :: .int x :: S) h Q = AW d 0 345 L (.int (x + y) :: S) h Q := AW_n cdn_L_law rfl rfl
set_option maxRecDepth 20000 in
theorem st_L_law_345 {d : Nat} {L : am_L} {S : List Value} {Q : Option Value → am_H → Prop} {c : List (Nat × Nat)} {a : Nat → Nat → Int32} {r : Nat → Nat → Option Nat} {i : Int32} {k : Nat} (ht : am_tag c k = 20) (hi : inb i (am_len c k)) : AW d 0 345 L (.int i :: .ref k :: S) (c, a, r) Q = AW d 0 346 L (.int (a k i.toNatClampNeg) :: S) (c, a, r) Q := AW_ald cdn_L_law rfl (by decide) ht hi
set_option maxRecDepth 20000 in
theorem st_L_law_346 {d : Nat} {S : List Value} {h : am_H} {Q : Option Value → am_H → Prop} {l1 l2 l3 : Option Value} {x : Nat} : AW d 0 346 [some (.ref x), l1, l2, l3] S h Q = AW d 0 347 [some (.ref x), l1, l2, l3] (.ref x :: S) h Q := AW_n cdn_L_law rfl rfl
set_option maxRecDepth 20000 in
theorem st_L_law_347 {d : Nat} {S : List Value} {h : am_H} {Q : Option Value → am_H → Prop} {l0 l1 l2 : Option Value} {x : Int32} : AW d 0 347 [l0, l1, l2, some (.int x)] S h Q = AW d 0 348 [l0, l1, l2, some (.int x)] (.int x :: S) h Q := AW_n cdn_L_law rfl rfl
set_option maxRecDepth 20000 in
theorem st_L_law_348 {d : Nat} {L : am_L} {S : List Value} {h : am_H} {Q : Option Value → am_H → Prop} : AW d 0 348 L S h Q = AW d 0 349 L (.int 3 :: S) h Q := AW_n cdn_L_law rfl rfl
set_option maxRecDepth 20000 in
theorem st_L_law_349 {d : Nat} {L : am_L} {S : List Value} {h : am_H} {Q : Option Value → am_H → Prop} {x y : Int32} : AW d 0 349 L (.int y :: .int x :: S) h Q = AW d 0 350 L (.int (x + y) :: S) h Q := AW_n cdn_L_law rfl rfl
set_option maxRecDepth 20000 in
theorem st_L_law_350 {d : Nat} {L : am_L} {S : List Value} {Q : Option Value → am_H → Prop} {c : List (Nat × Nat)} {a : Nat → Nat → Int32} {r : Nat → Nat → Option Nat} {i : Int32} {k : Nat} (ht : am_tag c k = 20) (hi : inb i (am_len c k)) : AW d 0 350 L (.int i :: .ref k :: S) (c, a, r) Q = AW d 0 351 L (.int (a k i.toNatClampNeg) :: S) (c, a, r) Q := AW_ald cdn_L_law rfl (by decide) ht hi
set_option maxRecDepth 20000 in
theorem st_L_law_351 {d : Nat} {S : List Value} {h : am_H} {Q : Option Value → am_H → Prop} {l1 l2 l3 : Option Value} {x : Nat} : AW d 0 351 [some (.ref x), l1, l2, l3] S h Q = AW d 0 352 [some (.ref x), l1, l2, l3] (.ref x :: S) h Q := AW_n cdn_L_law rfl rfl
set_option maxRecDepth 20000 in
theorem st_L_law_352 {d : Nat} {S : List Value} {h : am_H} {Q : Option Value → am_H → Prop} {l0 l1 l2 : Option Value} {x : Int32} : AW d 0 352 [l0, l1, l2, some (.int x)] S h Q = AW d 0 353 [l0, l1, l2, some (.int x)] (.int x :: S) h Q := AW_n cdn_L_law rfl rfl
set_option maxRecDepth 20000 in
theorem st_L_law_353 {d : Nat} {L : am_L} {S : List Value} {h : am_H} {Q : Option Value → am_H → Prop} : AW d 0 353 L S h Q = AW d 0 354 L (.int 4 :: S) h Q := AW_n cdn_L_law rfl rfl
set_option maxRecDepth 20000 in
theorem st_L_law_354 {d : Nat} {L : am_L} {S : List Value} {h : am_H} {Q : Option Value → am_H → Prop} {x y : Int32} : AW d 0 354 L (.int y :: .int x :: S) h Q = AW d 0 355 L (.int (x + y) :: S) h Q := AW_n cdn_L_law rfl rfl
set_option maxRecDepth 20000 in
theorem st_L_law_355 {d : Nat} {L : am_L} {S : List Value} {Q : Option Value → am_H → Prop} {c : List (Nat × Nat)} {a : Nat → Nat → Int32} {r : Nat → Nat → Option Nat} {i : Int32} {k : Nat} (ht : am_tag c k = 20) (hi : inb i (am_len c k)) : AW d 0 355 L (.int i :: .ref k :: S) (c, a, r) Q = AW d 0 356 L (.int (a k i.toNatClampNeg) :: S) (c, a, r) Q := AW_ald cdn_L_law rfl (by decide) ht hi
set_option maxRecDepth 20000 in
theorem st_L_law_356 {d : Nat} {L : am_L} {S : List Value} {Q : Option Value → am_H → Prop} {c : List (Nat × Nat)} {a : Nat → Nat → Int32} {r : Nat → Nat → Option Nat} {k : Nat} {x1 : Int32} {x2 : Int32} {x3 : Int32} {x4 : Int32} (ht : am_tag c k = 9) (hS : (S.map fun v => v.category).sum ≤ 8) : AW (d + 1) 0 356 L (.int x4 :: .int x3 :: .int x2 :: .int x1 :: .ref k :: S) (c, a, r) Q = CALL d 75 [.ref k, .int x1, .int x2, .int x3, .int x4] (c, a, r) (fun v h9 => AW (d + 1) 0 359 L (v.toList ++ S) h9 Q) := AW_invV (n := 4) (t := [.int x4, .int x3, .int x2, .int x1]) cdn_L_law rfl (by decide) (Nat.le_of_ble_eq_true rfl) rfl rfl ht hS
set_option maxRecDepth 20000 in
theorem st_L_law_359 {d : Nat} {S : List Value} {h : am_H} {Q : Option Value → am_H → Prop} {l0 l1 l3 : Option Value} {x : Nat} : AW d 0 359 [l0, l1, some (.ref x), l3] S h Q = AW d 0 360 [l0, l1, some (.ref x), l3] (.ref x :: S) h Q := AW_n cdn_L_law rfl rfl
set_option maxRecDepth 20000 in
theorem st_L_law_360 {d : Nat} {S : List Value} {h : am_H} {Q : Option Value → am_H → Prop} {l1 l2 l3 : Option Value} {x : Nat} : AW d 0 360 [some (.ref x), l1, l2, l3] S h Q = AW d 0 361 [some (.ref x), l1, l2, l3] (.ref x :: S) h Q := AW_n cdn_L_law rfl rfl
set_option maxRecDepth 20000 in
theorem st_L_law_361 {d : Nat} {S : List Value} {h : am_H} {Q : Option Value → am_H → Prop} {l0 l1 l2 : Option Value} {x : Int32} : AW d 0 361 [l0, l1, l2, some (.int x)] S h Q = AW d 0 362 [l0, l1, l2, some (.int x)] (.int x :: S) h Q := AW_n cdn_L_law rfl rfl
set_option maxRecDepth 20000 in
theorem st_L_law_362 {d : Nat} {L : am_L} {S : List Value} {h : am_H} {Q : Option Value → am_H → Prop} : AW d 0 362 L S h Q = AW d 0 363 L (.int 1 :: S) h Q := AW_n cdn_L_law rfl rfl
set_option maxRecDepth 20000 in
theorem st_L_law_363 {d : Nat} {L : am_L} {S : List Value} {h : am_H} {Q : Option Value → am_H → Prop} {x y : Int32} : AW d 0 363 L (.int y :: .int x :: S) h Q = AW d 0 364 L (.int (x + y) :: S) h Q := AW_n cdn_L_law rfl rfl
set_option maxRecDepth 20000 in
theorem st_L_law_364 {d : Nat} {L : am_L} {S : List Value} {Q : Option Value → am_H → Prop} {c : List (Nat × Nat)} {a : Nat → Nat → Int32} {r : Nat → Nat → Option Nat} {i : Int32} {k : Nat} (ht : am_tag c k = 20) (hi : inb i (am_len c k)) : AW d 0 364 L (.int i :: .ref k :: S) (c, a, r) Q = AW d 0 365 L (.int (a k i.toNatClampNeg) :: S) (c, a, r) Q := AW_ald cdn_L_law rfl (by decide) ht hi
set_option maxRecDepth 20000 in
theorem st_L_law_365 {d : Nat} {S : List Value} {h : am_H} {Q : Option Value → am_H → Prop} {l1 l2 l3 : Option Value} {x : Nat} : AW d 0 365 [some (.ref x), l1, l2, l3] S h Q = AW d 0 366 [some (.ref x), l1, l2, l3] (.ref x :: S) h Q := AW_n cdn_L_law rfl rfl
set_option maxRecDepth 20000 in
theorem st_L_law_366 {d : Nat} {S : List Value} {h : am_H} {Q : Option Value → am_H → Prop} {l0 l1 l2 : Option Value} {x : Int32} : AW d 0 366 [l0, l1, l2, some (.int x)] S h Q = AW d 0 367 [l0, l1, l2, some (.int x)] (.int x :: S) h Q := AW_n cdn_L_law rfl rfl
set_option maxRecDepth 20000 in
theorem st_L_law_367 {d : Nat} {L : am_L} {S : List Value} {h : am_H} {Q : Option Value → am_H → Prop} : AW d 0 367 L S h Q = AW d 0 368 L (.int 2 :: S) h Q := AW_n cdn_L_law rfl rfl
set_option maxRecDepth 20000 in
theorem st_L_law_368 {d : Nat} {L : am_L} {S : List Value} {h : am_H} {Q : Option Value → am_H → Prop} {x y : Int32} : AW d 0 368 L (.int y :: .int x :: S) h Q = AW d 0 369 L (.int (x + y) :: S) h Q := AW_n cdn_L_law rfl rfl
set_option maxRecDepth 20000 in
theorem st_L_law_369 {d : Nat} {L : am_L} {S : List Value} {Q : Option Value → am_H → Prop} {c : List (Nat × Nat)} {a : Nat → Nat → Int32} {r : Nat → Nat → Option Nat} {i : Int32} {k : Nat} (ht : am_tag c k = 20) (hi : inb i (am_len c k)) : AW d 0 369 L (.int i :: .ref k :: S) (c, a, r) Q = AW d 0 370 L (.int (a k i.toNatClampNeg) :: S) (c, a, r) Q := AW_ald cdn_L_law rfl (by decide) ht hi
set_option maxRecDepth 20000 in
theorem st_L_law_370 {d : Nat} {S : List Value} {h : am_H} {Q : Option Value → am_H → Prop} {l1 l2 l3 : Option Value} {x : Nat} : AW d 0 370 [some (.ref x), l1, l2, l3] S h Q = AW d 0 371 [some (.ref x), l1, l2, l3] (.ref x :: S) h Q := AW_n cdn_L_law rfl rfl
set_option maxRecDepth 20000 in
theorem st_L_law_371 {d : Nat} {S : List Value} {h : am_H} {Q : Option Value → am_H → Prop} {l0 l1 l2 : Option Value} {x : Int32} : AW d 0 371 [l0, l1, l2, some (.int x)] S h Q = AW d 0 372 [l0, l1, l2, some (.int x)] (.int x :: S) h Q := AW_n cdn_L_law rfl rfl
set_option maxRecDepth 20000 in
theorem st_L_law_372 {d : Nat} {L : am_L} {S : List Value} {h : am_H} {Q : Option Value → am_H → Prop} : AW d 0 372 L S h Q = AW d 0 373 L (.int 3 :: S) h Q := AW_n cdn_L_law rfl rfl
set_option maxRecDepth 20000 in
theorem st_L_law_373 {d : Nat} {L : am_L} {S : List Value} {h : am_H} {Q : Option Value → am_H → Prop} {x y : Int32} : AW d 0 373 L (.int y :: .int x :: S) h Q = AW d 0 374 L (.int (x + y) :: S) h Q := AW_n cdn_L_law rfl rfl
set_option maxRecDepth 20000 in
theorem st_L_law_374 {d : Nat} {L : am_L} {S : List Value} {Q : Option Value → am_H → Prop} {c : List (Nat × Nat)} {a : Nat → Nat → Int32} {r : Nat → Nat → Option Nat} {i : Int32} {k : Nat} (ht : am_tag c k = 20) (hi : inb i (am_len c k)) : AW d 0 374 L (.int i :: .ref k :: S) (c, a, r) Q = AW d 0 375 L (.int (a k i.toNatClampNeg) :: S) (c, a, r) Q := AW_ald cdn_L_law rfl (by decide) ht hi
set_option maxRecDepth 20000 in
theorem st_L_law_375 {d : Nat} {S : List Value} {h : am_H} {Q : Option Value → am_H → Prop} {l1 l2 l3 : Option Value} {x : Nat} : AW d 0 375 [some (.ref x), l1, l2, l3] S h Q = AW d 0 376 [some (.ref x), l1, l2, l3] (.ref x :: S) h Q := AW_n cdn_L_law rfl rfl
set_option maxRecDepth 20000 in
theorem st_L_law_376 {d : Nat} {S : List Value} {h : am_H} {Q : Option Value → am_H → Prop} {l0 l1 l2 : Option Value} {x : Int32} : AW d 0 376 [l0, l1, l2, some (.int x)] S h Q = AW d 0 377 [l0, l1, l2, some (.int x)] (.int x :: S) h Q := AW_n cdn_L_law rfl rfl
set_option maxRecDepth 20000 in
theorem st_L_law_377 {d : Nat} {L : am_L} {S : List Value} {h : am_H} {Q : Option Value → am_H → Prop} : AW d 0 377 L S h Q = AW d 0 378 L (.int 4 :: S) h Q := AW_n cdn_L_law rfl rfl
set_option maxRecDepth 20000 in
theorem st_L_law_378 {d : Nat} {L : am_L} {S : List Value} {h : am_H} {Q : Option Value → am_H → Prop} {x y : Int32} : AW d 0 378 L (.int y :: .int x :: S) h Q = AW d 0 379 L (.int (x + y) :: S) h Q := AW_n cdn_L_law rfl rfl
set_option maxRecDepth 20000 in
theorem st_L_law_379 {d : Nat} {L : am_L} {S : List Value} {Q : Option Value → am_H → Prop} {c : List (Nat × Nat)} {a : Nat → Nat → Int32} {r : Nat → Nat → Option Nat} {i : Int32} {k : Nat} (ht : am_tag c k = 20) (hi : inb i (am_len c k)) : AW d 0 379 L (.int i :: .ref k :: S) (c, a, r) Q = AW d 0 380 L (.int (a k i.toNatClampNeg) :: S) (c, a, r) Q := AW_ald cdn_L_law rfl (by decide) ht hi
set_option maxRecDepth 20000 in
theorem st_L_law_380 {d : Nat} {L : am_L} {S : List Value} {Q : Option Value → am_H → Prop} {c : List (Nat × Nat)} {a : Nat → Nat → Int32} {r : Nat → Nat → Option Nat} {k : Nat} {x1 : Int32} {x2 : Int32} {x3 : Int32} {x4 : Int32} (ht : am_tag c k = 10) (hS : (S.map fun v => v.category).sum ≤ 8) : AW (d + 1) 0 380 L (.int x4 :: .int x3 :: .int x2 :: .int x1 :: .ref k :: S) (c, a, r) Q = CALL d 138 [.ref k, .int x1, .int x2, .int x3, .int x4] (c, a, r) (fun v h9 => AW (d + 1) 0 383 L (v.toList ++ S) h9 Q) := AW_invV (n := 4) (t := [.int x4, .int x3, .int x2, .int x1]) cdn_L_law rfl (by decide) (Nat.le_of_ble_eq_true rfl) rfl rfl ht hS
set_option maxRecDepth 20000 in
theorem st_L_law_383 {d : Nat} {L : am_L} {S : List Value} {h : am_H} {Q : Option Value → am_H → Prop} {x y : Int32} : AW d 0 383 L (.int y :: .int x :: S) h Q = if x = y then AW d 0 1579 L S h Q else AW d 0 386 L S h Q := AW_if cdn_L_law rfl rfl
set_option maxRecDepth 20000 in
theorem st_L_law_386 {d : Nat} {L : am_L} {S : List Value} {h : am_H} {Q : Option Value → am_H → Prop} : AW d 0 386 L S h Q = AW d 0 387 L (.int 0 :: S) h Q := AW_n cdn_L_law rfl rfl
set_option maxRecDepth 20000 in
theorem st_L_law_387 {d : Nat} {L : am_L} {h : am_H} {Q : Option Value → am_H → Prop} {x : Int32} (hx : x = 0 ∨ x = 1) : AW d 0 387 L [.int x] h Q = Q (some (.int x)) h := AW_zret cdn_L_law rfl hx
set_option maxRecDepth 20000 in
theorem st_L_law_388 {d : Nat} {S : List Value} {h : am_H} {Q : Option Value → am_H → Prop} {l0 l2 l3 : Option Value} {x : Nat} : AW d 0 388 [l0, some (.ref x), l2, l3] S h Q = AW d 0 389 [l0, some (.ref x), l2, l3] (.ref x :: S) h Q := AW_n cdn_L_law rfl rfl
set_option maxRecDepth 20000 in
theorem st_L_law_389 {d : Nat} {S : List Value} {h : am_H} {Q : Option Value → am_H → Prop} {l1 l2 l3 : Option Value} {x : Nat} : AW d 0 389 [some (.ref x), l1, l2, l3] S h Q = AW d 0 390 [some (.ref x), l1, l2, l3] (.ref x :: S) h Q := AW_n cdn_L_law rfl rfl
set_option maxRecDepth 20000 in
theorem st_L_law_390 {d : Nat} {S : List Value} {h : am_H} {Q : Option Value → am_H → Prop} {l0 l1 l2 : Option Value} {x : Int32} : AW d 0 390 [l0, l1, l2, some (.int x)] S h Q = AW d 0 391 [l0, l1, l2, some (.int x)] (.int x :: S) h Q := AW_n cdn_L_law rfl rfl
set_option maxRecDepth 20000 in
theorem st_L_law_391 {d : Nat} {L : am_L} {S : List Value} {h : am_H} {Q : Option Value → am_H → Prop} : AW d 0 391 L S h Q = AW d 0 392 L (.int 1 :: S) h Q := AW_n cdn_L_law rfl rfl
set_option maxRecDepth 20000 in
theorem st_L_law_392 {d : Nat} {L : am_L} {S : List Value} {h : am_H} {Q : Option Value → am_H → Prop} {x y : Int32} : AW d 0 392 L (.int y :: .int x :: S) h Q = AW d 0 393 L (.int (x + y) :: S) h Q := AW_n cdn_L_law rfl rfl
set_option maxRecDepth 20000 in
theorem st_L_law_393 {d : Nat} {L : am_L} {S : List Value} {Q : Option Value → am_H → Prop} {c : List (Nat × Nat)} {a : Nat → Nat → Int32} {r : Nat → Nat → Option Nat} {i : Int32} {k : Nat} (ht : am_tag c k = 20) (hi : inb i (am_len c k)) : AW d 0 393 L (.int i :: .ref k :: S) (c, a, r) Q = AW d 0 394 L (.int (a k i.toNatClampNeg) :: S) (c, a, r) Q := AW_ald cdn_L_law rfl (by decide) ht hi
set_option maxRecDepth 20000 in
theorem st_L_law_394 {d : Nat} {S : List Value} {h : am_H} {Q : Option Value → am_H → Prop} {l1 l2 l3 : Option Value} {x : Nat} : AW d 0 394 [some (.ref x), l1, l2, l3] S h Q = AW d 0 395 [some (.ref x), l1, l2, l3] (.ref x :: S) h Q := AW_n cdn_L_law rfl rfl
set_option maxRecDepth 20000 in
theorem st_L_law_395 {d : Nat} {S : List Value} {h : am_H} {Q : Option Value → am_H → Prop} {l0 l1 l2 : Option Value} {x : Int32} : AW d 0 395 [l0, l1, l2, some (.int x)] S h Q = AW d 0 396 [l0, l1, l2, some (.int x)] (.int x :: S) h Q := AW_n cdn_L_law rfl rfl
set_option maxRecDepth 20000 in
theorem st_L_law_396 {d : Nat} {L : am_L} {S : List Value} {h : am_H} {Q : Option Value → am_H → Prop} : AW d 0 396 L S h Q = AW d 0 397 L (.int 2 :: S) h Q := AW_n cdn_L_law rfl rfl
set_option maxRecDepth 20000 in
theorem st_L_law_397 {d : Nat} {L : am_L} {S : List Value} {h : am_H} {Q : Option Value → am_H → Prop} {x y : Int32} : AW d 0 397 L (.int y :: .int x :: S) h Q = AW d 0 398 L (.int (x + y) :: S) h Q := AW_n cdn_L_law rfl rfl
set_option maxRecDepth 20000 in
theorem st_L_law_398 {d : Nat} {L : am_L} {S : List Value} {Q : Option Value → am_H → Prop} {c : List (Nat × Nat)} {a : Nat → Nat → Int32} {r : Nat → Nat → Option Nat} {i : Int32} {k : Nat} (ht : am_tag c k = 20) (hi : inb i (am_len c k)) : AW d 0 398 L (.int i :: .ref k :: S) (c, a, r) Q = AW d 0 399 L (.int (a k i.toNatClampNeg) :: S) (c, a, r) Q := AW_ald cdn_L_law rfl (by decide) ht hi
set_option maxRecDepth 20000 in
theorem st_L_law_399 {d : Nat} {S : List Value} {h : am_H} {Q : Option Value → am_H → Prop} {l1 l2 l3 : Option Value} {x : Nat} : AW d 0 399 [some (.ref x), l1, l2, l3] S h Q = AW d 0 400 [some (.ref x), l1, l2, l3] (.ref x :: S) h Q := AW_n cdn_L_law rfl rfl
set_option maxRecDepth 20000 in
theorem st_L_law_400 {d : Nat} {S : List Value} {h : am_H} {Q : Option Value → am_H → Prop} {l0 l1 l2 : Option Value} {x : Int32} : AW d 0 400 [l0, l1, l2, some (.int x)] S h Q = AW d 0 401 [l0, l1, l2, some (.int x)] (.int x :: S) h Q := AW_n cdn_L_law rfl rfl
set_option maxRecDepth 20000 in
theorem st_L_law_401 {d : Nat} {L : am_L} {S : List Value} {h : am_H} {Q : Option Value → am_H → Prop} : AW d 0 401 L S h Q = AW d 0 402 L (.int 3 :: S) h Q := AW_n cdn_L_law rfl rfl
set_option maxRecDepth 20000 in
theorem st_L_law_402 {d : Nat} {L : am_L} {S : List Value} {h : am_H} {Q : Option Value → am_H → Prop} {x y : Int32} : AW d 0 402 L (.int y :: .int x :: S) h Q = AW d 0 403 L (.int (x + y) :: S) h Q := AW_n cdn_L_law rfl rfl
set_option maxRecDepth 20000 in
theorem st_L_law_403 {d : Nat} {L : am_L} {S : List Value} {Q : Option Value → am_H → Prop} {c : List (Nat × Nat)} {a : Nat → Nat → Int32} {r : Nat → Nat → Option Nat} {i : Int32} {k : Nat} (ht : am_tag c k = 20) (hi : inb i (am_len c k)) : AW d 0 403 L (.int i :: .ref k :: S) (c, a, r) Q = AW d 0 404 L (.int (a k i.toNatClampNeg) :: S) (c, a, r) Q := AW_ald cdn_L_law rfl (by decide) ht hi
set_option maxRecDepth 20000 in
theorem st_L_law_404 {d : Nat} {L : am_L} {S : List Value} {Q : Option Value → am_H → Prop} {c : List (Nat × Nat)} {a : Nat → Nat → Int32} {r : Nat → Nat → Option Nat} {k : Nat} {x1 : Int32} {x2 : Int32} {x3 : Int32} (ht : am_tag c k = 9) (hS : (S.map fun v => v.category).sum ≤ 8) : AW (d + 1) 0 404 L (.int x3 :: .int x2 :: .int x1 :: .ref k :: S) (c, a, r) Q = CALL d 76 [.ref k, .int x1, .int x2, .int x3] (c, a, r) (fun v h9 => AW (d + 1) 0 407 L (v.toList ++ S) h9 Q) := AW_invV (n := 3) (t := [.int x3, .int x2, .int x1]) cdn_L_law rfl (by decide) (Nat.le_of_ble_eq_true rfl) rfl rfl ht hS
set_option maxRecDepth 20000 in
theorem st_L_law_407 {d : Nat} {S : List Value} {h : am_H} {Q : Option Value → am_H → Prop} {l0 l1 l3 : Option Value} {x : Nat} : AW d 0 407 [l0, l1, some (.ref x), l3] S h Q = AW d 0 408 [l0, l1, some (.ref x), l3] (.ref x :: S) h Q := AW_n cdn_L_law rfl rfl
set_option maxRecDepth 20000 in
theorem st_L_law_408 {d : Nat} {S : List Value} {h : am_H} {Q : Option Value → am_H → Prop} {l1 l2 l3 : Option Value} {x : Nat} : AW d 0 408 [some (.ref x), l1, l2, l3] S h Q = AW d 0 409 [some (.ref x), l1, l2, l3] (.ref x :: S) h Q := AW_n cdn_L_law rfl rfl
set_option maxRecDepth 20000 in
theorem st_L_law_409 {d : Nat} {S : List Value} {h : am_H} {Q : Option Value → am_H → Prop} {l0 l1 l2 : Option Value} {x : Int32} : AW d 0 409 [l0, l1, l2, some (.int x)] S h Q = AW d 0 410 [l0, l1, l2, some (.int x)] (.int x :: S) h Q := AW_n cdn_L_law rfl rfl
set_option maxRecDepth 20000 in
theorem st_L_law_410 {d : Nat} {L : am_L} {S : List Value} {h : am_H} {Q : Option Value → am_H → Prop} : AW d 0 410 L S h Q = AW d 0 411 L (.int 1 :: S) h Q := AW_n cdn_L_law rfl rfl
set_option maxRecDepth 20000 in
theorem st_L_law_411 {d : Nat} {L : am_L} {S : List Value} {h : am_H} {Q : Option Value → am_H → Prop} {x y : Int32} : AW d 0 411 L (.int y :: .int x :: S) h Q = AW d 0 412 L (.int (x + y) :: S) h Q := AW_n cdn_L_law rfl rfl
set_option maxRecDepth 20000 in
theorem st_L_law_412 {d : Nat} {L : am_L} {S : List Value} {Q : Option Value → am_H → Prop} {c : List (Nat × Nat)} {a : Nat → Nat → Int32} {r : Nat → Nat → Option Nat} {i : Int32} {k : Nat} (ht : am_tag c k = 20) (hi : inb i (am_len c k)) : AW d 0 412 L (.int i :: .ref k :: S) (c, a, r) Q = AW d 0 413 L (.int (a k i.toNatClampNeg) :: S) (c, a, r) Q := AW_ald cdn_L_law rfl (by decide) ht hi
set_option maxRecDepth 20000 in
theorem st_L_law_413 {d : Nat} {S : List Value} {h : am_H} {Q : Option Value → am_H → Prop} {l1 l2 l3 : Option Value} {x : Nat} : AW d 0 413 [some (.ref x), l1, l2, l3] S h Q = AW d 0 414 [some (.ref x), l1, l2, l3] (.ref x :: S) h Q := AW_n cdn_L_law rfl rfl
set_option maxRecDepth 20000 in
theorem st_L_law_414 {d : Nat} {S : List Value} {h : am_H} {Q : Option Value → am_H → Prop} {l0 l1 l2 : Option Value} {x : Int32} : AW d 0 414 [l0, l1, l2, some (.int x)] S h Q = AW d 0 415 [l0, l1, l2, some (.int x)] (.int x :: S) h Q := AW_n cdn_L_law rfl rfl
set_option maxRecDepth 20000 in
theorem st_L_law_415 {d : Nat} {L : am_L} {S : List Value} {h : am_H} {Q : Option Value → am_H → Prop} : AW d 0 415 L S h Q = AW d 0 416 L (.int 2 :: S) h Q := AW_n cdn_L_law rfl rfl
set_option maxRecDepth 20000 in
theorem st_L_law_416 {d : Nat} {L : am_L} {S : List Value} {h : am_H} {Q : Option Value → am_H → Prop} {x y : Int32} : AW d 0 416 L (.int y :: .int x :: S) h Q = AW d 0 417 L (.int (x + y) :: S) h Q := AW_n cdn_L_law rfl rfl
set_option maxRecDepth 20000 in
theorem st_L_law_417 {d : Nat} {L : am_L} {S : List Value} {Q : Option Value → am_H → Prop} {c : List (Nat × Nat)} {a : Nat → Nat → Int32} {r : Nat → Nat → Option Nat} {i : Int32} {k : Nat} (ht : am_tag c k = 20) (hi : inb i (am_len c k)) : AW d 0 417 L (.int i :: .ref k :: S) (c, a, r) Q = AW d 0 418 L (.int (a k i.toNatClampNeg) :: S) (c, a, r) Q := AW_ald cdn_L_law rfl (by decide) ht hi
set_option maxRecDepth 20000 in
theorem st_L_law_418 {d : Nat} {S : List Value} {h : am_H} {Q : Option Value → am_H → Prop} {l1 l2 l3 : Option Value} {x : Nat} : AW d 0 418 [some (.ref x), l1, l2, l3] S h Q = AW d 0 419 [some (.ref x), l1, l2, l3] (.ref x :: S) h Q := AW_n cdn_L_law rfl rfl
set_option maxRecDepth 20000 in
theorem st_L_law_419 {d : Nat} {S : List Value} {h : am_H} {Q : Option Value → am_H → Prop} {l0 l1 l2 : Option Value} {x : Int32} : AW d 0 419 [l0, l1, l2, some (.int x)] S h Q = AW d 0 420 [l0, l1, l2, some (.int x)] (.int x :: S) h Q := AW_n cdn_L_law rfl rfl
set_option maxRecDepth 20000 in
theorem st_L_law_420 {d : Nat} {L : am_L} {S : List Value} {h : am_H} {Q : Option Value → am_H → Prop} : AW d 0 420 L S h Q = AW d 0 421 L (.int 3 :: S) h Q := AW_n cdn_L_law rfl rfl
set_option maxRecDepth 20000 in
theorem st_L_law_421 {d : Nat} {L : am_L} {S : List Value} {h : am_H} {Q : Option Value → am_H → Prop} {x y : Int32} : AW d 0 421 L (.int y :: .int x :: S) h Q = AW d 0 422 L (.int (x + y) :: S) h Q := AW_n cdn_L_law rfl rfl
set_option maxRecDepth 20000 in
theorem st_L_law_422 {d : Nat} {L : am_L} {S : List Value} {Q : Option Value → am_H → Prop} {c : List (Nat × Nat)} {a : Nat → Nat → Int32} {r : Nat → Nat → Option Nat} {i : Int32} {k : Nat} (ht : am_tag c k = 20) (hi : inb i (am_len c k)) : AW d 0 422 L (.int i :: .ref k :: S) (c, a, r) Q = AW d 0 423 L (.int (a k i.toNatClampNeg) :: S) (c, a, r) Q := AW_ald cdn_L_law rfl (by decide) ht hi
set_option maxRecDepth 20000 in
theorem st_L_law_423 {d : Nat} {L : am_L} {S : List Value} {Q : Option Value → am_H → Prop} {c : List (Nat × Nat)} {a : Nat → Nat → Int32} {r : Nat → Nat → Option Nat} {k : Nat} {x1 : Int32} {x2 : Int32} {x3 : Int32} (ht : am_tag c k = 10) (hS : (S.map fun v => v.category).sum ≤ 8) : AW (d + 1) 0 423 L (.int x3 :: .int x2 :: .int x1 :: .ref k :: S) (c, a, r) Q = CALL d 139 [.ref k, .int x1, .int x2, .int x3] (c, a, r) (fun v h9 => AW (d + 1) 0 426 L (v.toList ++ S) h9 Q) := AW_invV (n := 3) (t := [.int x3, .int x2, .int x1]) cdn_L_law rfl (by decide) (Nat.le_of_ble_eq_true rfl) rfl rfl ht hS
set_option maxRecDepth 20000 in
theorem st_L_law_426 {d : Nat} {L : am_L} {S : List Value} {h : am_H} {Q : Option Value → am_H → Prop} {x y : Int32} : AW d 0 426 L (.int y :: .int x :: S) h Q = if x = y then AW d 0 1579 L S h Q else AW d 0 429 L S h Q := AW_if cdn_L_law rfl rfl
set_option maxRecDepth 20000 in
theorem st_L_law_429 {d : Nat} {L : am_L} {S : List Value} {h : am_H} {Q : Option Value → am_H → Prop} : AW d 0 429 L S h Q = AW d 0 430 L (.int 0 :: S) h Q := AW_n cdn_L_law rfl rfl
set_option maxRecDepth 20000 in
theorem st_L_law_430 {d : Nat} {L : am_L} {h : am_H} {Q : Option Value → am_H → Prop} {x : Int32} (hx : x = 0 ∨ x = 1) : AW d 0 430 L [.int x] h Q = Q (some (.int x)) h := AW_zret cdn_L_law rfl hx
set_option maxRecDepth 20000 in
theorem st_L_law_431 {d : Nat} {S : List Value} {h : am_H} {Q : Option Value → am_H → Prop} {l0 l2 l3 : Option Value} {x : Nat} : AW d 0 431 [l0, some (.ref x), l2, l3] S h Q = AW d 0 432 [l0, some (.ref x), l2, l3] (.ref x :: S) h Q := AW_n cdn_L_law rfl rfl
set_option maxRecDepth 20000 in
theorem st_L_law_432 {d : Nat} {S : List Value} {h : am_H} {Q : Option Value → am_H → Prop} {l1 l2 l3 : Option Value} {x : Nat} : AW d 0 432 [some (.ref x), l1, l2, l3] S h Q = AW d 0 433 [some (.ref x), l1, l2, l3] (.ref x :: S) h Q := AW_n cdn_L_law rfl rfl
set_option maxRecDepth 20000 in
theorem st_L_law_433 {d : Nat} {S : List Value} {h : am_H} {Q : Option Value → am_H → Prop} {l0 l1 l2 : Option Value} {x : Int32} : AW d 0 433 [l0, l1, l2, some (.int x)] S h Q = AW d 0 434 [l0, l1, l2, some (.int x)] (.int x :: S) h Q := AW_n cdn_L_law rfl rfl
set_option maxRecDepth 20000 in
theorem st_L_law_434 {d : Nat} {L : am_L} {S : List Value} {h : am_H} {Q : Option Value → am_H → Prop} : AW d 0 434 L S h Q = AW d 0 435 L (.int 1 :: S) h Q := AW_n cdn_L_law rfl rfl
set_option maxRecDepth 20000 in
theorem st_L_law_435 {d : Nat} {L : am_L} {S : List Value} {h : am_H} {Q : Option Value → am_H → Prop} {x y : Int32} : AW d 0 435 L (.int y :: .int x :: S) h Q = AW d 0 436 L (.int (x + y) :: S) h Q := AW_n cdn_L_law rfl rfl
set_option maxRecDepth 20000 in
theorem st_L_law_436 {d : Nat} {L : am_L} {S : List Value} {Q : Option Value → am_H → Prop} {c : List (Nat × Nat)} {a : Nat → Nat → Int32} {r : Nat → Nat → Option Nat} {i : Int32} {k : Nat} (ht : am_tag c k = 20) (hi : inb i (am_len c k)) : AW d 0 436 L (.int i :: .ref k :: S) (c, a, r) Q = AW d 0 437 L (.int (a k i.toNatClampNeg) :: S) (c, a, r) Q := AW_ald cdn_L_law rfl (by decide) ht hi
set_option maxRecDepth 20000 in
theorem st_L_law_437 {d : Nat} {S : List Value} {h : am_H} {Q : Option Value → am_H → Prop} {l1 l2 l3 : Option Value} {x : Nat} : AW d 0 437 [some (.ref x), l1, l2, l3] S h Q = AW d 0 438 [some (.ref x), l1, l2, l3] (.ref x :: S) h Q := AW_n cdn_L_law rfl rfl
set_option maxRecDepth 20000 in
theorem st_L_law_438 {d : Nat} {S : List Value} {h : am_H} {Q : Option Value → am_H → Prop} {l0 l1 l2 : Option Value} {x : Int32} : AW d 0 438 [l0, l1, l2, some (.int x)] S h Q = AW d 0 439 [l0, l1, l2, some (.int x)] (.int x :: S) h Q := AW_n cdn_L_law rfl rfl
set_option maxRecDepth 20000 in
theorem st_L_law_439 {d : Nat} {L : am_L} {S : List Value} {h : am_H} {Q : Option Value → am_H → Prop} : AW d 0 439 L S h Q = AW d 0 440 L (.int 2 :: S) h Q := AW_n cdn_L_law rfl rfl
set_option maxRecDepth 20000 in
theorem st_L_law_440 {d : Nat} {L : am_L} {S : List Value} {h : am_H} {Q : Option Value → am_H → Prop} {x y : Int32} : AW d 0 440 L (.int y :: .int x :: S) h Q = AW d 0 441 L (.int (x + y) :: S) h Q := AW_n cdn_L_law rfl rfl
set_option maxRecDepth 20000 in
theorem st_L_law_441 {d : Nat} {L : am_L} {S : List Value} {Q : Option Value → am_H → Prop} {c : List (Nat × Nat)} {a : Nat → Nat → Int32} {r : Nat → Nat → Option Nat} {i : Int32} {k : Nat} (ht : am_tag c k = 20) (hi : inb i (am_len c k)) : AW d 0 441 L (.int i :: .ref k :: S) (c, a, r) Q = AW d 0 442 L (.int (a k i.toNatClampNeg) :: S) (c, a, r) Q := AW_ald cdn_L_law rfl (by decide) ht hi
set_option maxRecDepth 20000 in
theorem st_L_law_442 {d : Nat} {L : am_L} {S : List Value} {Q : Option Value → am_H → Prop} {c : List (Nat × Nat)} {a : Nat → Nat → Int32} {r : Nat → Nat → Option Nat} {k : Nat} {x1 : Int32} {x2 : Int32} (ht : am_tag c k = 9) (hS : (S.map fun v => v.category).sum ≤ 8) : AW (d + 1) 0 442 L (.int x2 :: .int x1 :: .ref k :: S) (c, a, r) Q = CALL d 77 [.ref k, .int x1, .int x2] (c, a, r) (fun v h9 => AW (d + 1) 0 445 L (v.toList ++ S) h9 Q) := AW_invV (n := 2) (t := [.int x2, .int x1]) cdn_L_law rfl (by decide) (Nat.le_of_ble_eq_true rfl) rfl rfl ht hS
set_option maxRecDepth 20000 in
theorem st_L_law_445 {d : Nat} {S : List Value} {h : am_H} {Q : Option Value → am_H → Prop} {l0 l1 l3 : Option Value} {x : Nat} : AW d 0 445 [l0, l1, some (.ref x), l3] S h Q = AW d 0 446 [l0, l1, some (.ref x), l3] (.ref x :: S) h Q := AW_n cdn_L_law rfl rfl
set_option maxRecDepth 20000 in
theorem st_L_law_446 {d : Nat} {S : List Value} {h : am_H} {Q : Option Value → am_H → Prop} {l1 l2 l3 : Option Value} {x : Nat} : AW d 0 446 [some (.ref x), l1, l2, l3] S h Q = AW d 0 447 [some (.ref x), l1, l2, l3] (.ref x :: S) h Q := AW_n cdn_L_law rfl rfl
set_option maxRecDepth 20000 in
theorem st_L_law_447 {d : Nat} {S : List Value} {h : am_H} {Q : Option Value → am_H → Prop} {l0 l1 l2 : Option Value} {x : Int32} : AW d 0 447 [l0, l1, l2, some (.int x)] S h Q = AW d 0 448 [l0, l1, l2, some (.int x)] (.int x :: S) h Q := AW_n cdn_L_law rfl rfl
set_option maxRecDepth 20000 in
theorem st_L_law_448 {d : Nat} {L : am_L} {S : List Value} {h : am_H} {Q : Option Value → am_H → Prop} : AW d 0 448 L S h Q = AW d 0 449 L (.int 1 :: S) h Q := AW_n cdn_L_law rfl rfl
set_option maxRecDepth 20000 in
theorem st_L_law_449 {d : Nat} {L : am_L} {S : List Value} {h : am_H} {Q : Option Value → am_H → Prop} {x y : Int32} : AW d 0 449 L (.int y :: .int x :: S) h Q = AW d 0 450 L (.int (x + y) :: S) h Q := AW_n cdn_L_law rfl rfl
set_option maxRecDepth 20000 in
theorem st_L_law_450 {d : Nat} {L : am_L} {S : List Value} {Q : Option Value → am_H → Prop} {c : List (Nat × Nat)} {a : Nat → Nat → Int32} {r : Nat → Nat → Option Nat} {i : Int32} {k : Nat} (ht : am_tag c k = 20) (hi : inb i (am_len c k)) : AW d 0 450 L (.int i :: .ref k :: S) (c, a, r) Q = AW d 0 451 L (.int (a k i.toNatClampNeg) :: S) (c, a, r) Q := AW_ald cdn_L_law rfl (by decide) ht hi
set_option maxRecDepth 20000 in
theorem st_L_law_451 {d : Nat} {S : List Value} {h : am_H} {Q : Option Value → am_H → Prop} {l1 l2 l3 : Option Value} {x : Nat} : AW d 0 451 [some (.ref x), l1, l2, l3] S h Q = AW d 0 452 [some (.ref x), l1, l2, l3] (.ref x :: S) h Q := AW_n cdn_L_law rfl rfl
set_option maxRecDepth 20000 in
theorem st_L_law_452 {d : Nat} {S : List Value} {h : am_H} {Q : Option Value → am_H → Prop} {l0 l1 l2 : Option Value} {x : Int32} : AW d 0 452 [l0, l1, l2, some (.int x)] S h Q = AW d 0 453 [l0, l1, l2, some (.int x)] (.int x :: S) h Q := AW_n cdn_L_law rfl rfl
set_option maxRecDepth 20000 in
theorem st_L_law_453 {d : Nat} {L : am_L} {S : List Value} {h : am_H} {Q : Option Value → am_H → Prop} : AW d 0 453 L S h Q = AW d 0 454 L (.int 2 :: S) h Q := AW_n cdn_L_law rfl rfl
set_option maxRecDepth 20000 in
theorem st_L_law_454 {d : Nat} {L : am_L} {S : List Value} {h : am_H} {Q : Option Value → am_H → Prop} {x y : Int32} : AW d 0 454 L (.int y :: .int x :: S) h Q = AW d 0 455 L (.int (x + y) :: S) h Q := AW_n cdn_L_law rfl rfl
set_option maxRecDepth 20000 in
theorem st_L_law_455 {d : Nat} {L : am_L} {S : List Value} {Q : Option Value → am_H → Prop} {c : List (Nat × Nat)} {a : Nat → Nat → Int32} {r : Nat → Nat → Option Nat} {i : Int32} {k : Nat} (ht : am_tag c k = 20) (hi : inb i (am_len c k)) : AW d 0 455 L (.int i :: .ref k :: S) (c, a, r) Q = AW d 0 456 L (.int (a k i.toNatClampNeg) :: S) (c, a, r) Q := AW_ald cdn_L_law rfl (by decide) ht hi
set_option maxRecDepth 20000 in
theorem st_L_law_456 {d : Nat} {L : am_L} {S : List Value} {Q : Option Value → am_H → Prop} {c : List (Nat × Nat)} {a : Nat → Nat → Int32} {r : Nat → Nat → Option Nat} {k : Nat} {x1 : Int32} {x2 : Int32} (ht : am_tag c k = 10) (hS : (S.map fun v => v.category).sum ≤ 8) : AW (d + 1) 0 456 L (.int x2 :: .int x1 :: .ref k :: S) (c, a, r) Q = CALL d 140 [.ref k, .int x1, .int x2] (c, a, r) (fun v h9 => AW (d + 1) 0 459 L (v.toList ++ S) h9 Q) := AW_invV (n := 2) (t := [.int x2, .int x1]) cdn_L_law rfl (by decide) (Nat.le_of_ble_eq_true rfl) rfl rfl ht hS
set_option maxRecDepth 20000 in
theorem st_L_law_459 {d : Nat} {L : am_L} {S : List Value} {h : am_H} {Q : Option Value → am_H → Prop} {x y : Int32} : AW d 0 459 L (.int y :: .int x :: S) h Q = if x = y then AW d 0 1579 L S h Q else AW d 0 462 L S h Q := AW_if cdn_L_law rfl rfl
set_option maxRecDepth 20000 in
theorem st_L_law_462 {d : Nat} {L : am_L} {S : List Value} {h : am_H} {Q : Option Value → am_H → Prop} : AW d 0 462 L S h Q = AW d 0 463 L (.int 0 :: S) h Q := AW_n cdn_L_law rfl rfl
set_option maxRecDepth 20000 in
theorem st_L_law_463 {d : Nat} {L : am_L} {h : am_H} {Q : Option Value → am_H → Prop} {x : Int32} (hx : x = 0 ∨ x = 1) : AW d 0 463 L [.int x] h Q = Q (some (.int x)) h := AW_zret cdn_L_law rfl hx
set_option maxRecDepth 20000 in
theorem st_L_law_464 {d : Nat} {S : List Value} {h : am_H} {Q : Option Value → am_H → Prop} {l0 l2 l3 : Option Value} {x : Nat} : AW d 0 464 [l0, some (.ref x), l2, l3] S h Q = AW d 0 465 [l0, some (.ref x), l2, l3] (.ref x :: S) h Q := AW_n cdn_L_law rfl rfl
set_option maxRecDepth 20000 in
theorem st_L_law_465 {d : Nat} {S : List Value} {h : am_H} {Q : Option Value → am_H → Prop} {l1 l2 l3 : Option Value} {x : Nat} : AW d 0 465 [some (.ref x), l1, l2, l3] S h Q = AW d 0 466 [some (.ref x), l1, l2, l3] (.ref x :: S) h Q := AW_n cdn_L_law rfl rfl
set_option maxRecDepth 20000 in
theorem st_L_law_466 {d : Nat} {S : List Value} {h : am_H} {Q : Option Value → am_H → Prop} {l0 l1 l2 : Option Value} {x : Int32} : AW d 0 466 [l0, l1, l2, some (.int x)] S h Q = AW d 0 467 [l0, l1, l2, some (.int x)] (.int x :: S) h Q := AW_n cdn_L_law rfl rfl
set_option maxRecDepth 20000 in
theorem st_L_law_467 {d : Nat} {L : am_L} {S : List Value} {h : am_H} {Q : Option Value → am_H → Prop} : AW d 0 467 L S h Q = AW d 0 468 L (.int 1 :: S) h Q := AW_n cdn_L_law rfl rfl
set_option maxRecDepth 20000 in
theorem st_L_law_468 {d : Nat} {L : am_L} {S : List Value} {h : am_H} {Q : Option Value → am_H → Prop} {x y : Int32} : AW d 0 468 L (.int y :: .int x :: S) h Q = AW d 0 469 L (.int (x + y) :: S) h Q := AW_n cdn_L_law rfl rfl
set_option maxRecDepth 20000 in
theorem st_L_law_469 {d : Nat} {L : am_L} {S : List Value} {Q : Option Value → am_H → Prop} {c : List (Nat × Nat)} {a : Nat → Nat → Int32} {r : Nat → Nat → Option Nat} {i : Int32} {k : Nat} (ht : am_tag c k = 20) (hi : inb i (am_len c k)) : AW d 0 469 L (.int i :: .ref k :: S) (c, a, r) Q = AW d 0 470 L (.int (a k i.toNatClampNeg) :: S) (c, a, r) Q := AW_ald cdn_L_law rfl (by decide) ht hi
set_option maxRecDepth 20000 in
theorem st_L_law_470 {d : Nat} {S : List Value} {h : am_H} {Q : Option Value → am_H → Prop} {l1 l2 l3 : Option Value} {x : Nat} : AW d 0 470 [some (.ref x), l1, l2, l3] S h Q = AW d 0 471 [some (.ref x), l1, l2, l3] (.ref x :: S) h Q := AW_n cdn_L_law rfl rfl
set_option maxRecDepth 20000 in
theorem st_L_law_471 {d : Nat} {S : List Value} {h : am_H} {Q : Option Value → am_H → Prop} {l0 l1 l2 : Option Value} {x : Int32} : AW d 0 471 [l0, l1, l2, some (.int x)] S h Q = AW d 0 472 [l0, l1, l2, some (.int x)] (.int x :: S) h Q := AW_n cdn_L_law rfl rfl
set_option maxRecDepth 20000 in
theorem st_L_law_472 {d : Nat} {L : am_L} {S : List Value} {h : am_H} {Q : Option Value → am_H → Prop} : AW d 0 472 L S h Q = AW d 0 473 L (.int 2 :: S) h Q := AW_n cdn_L_law rfl rfl
set_option maxRecDepth 20000 in
theorem st_L_law_473 {d : Nat} {L : am_L} {S : List Value} {h : am_H} {Q : Option Value → am_H → Prop} {x y : Int32} : AW d 0 473 L (.int y :: .int x :: S) h Q = AW d 0 474 L (.int (x + y) :: S) h Q := AW_n cdn_L_law rfl rfl
set_option maxRecDepth 20000 in
theorem st_L_law_474 {d : Nat} {L : am_L} {S : List Value} {Q : Option Value → am_H → Prop} {c : List (Nat × Nat)} {a : Nat → Nat → Int32} {r : Nat → Nat → Option Nat} {i : Int32} {k : Nat} (ht : am_tag c k = 20) (hi : inb i (am_len c k)) : AW d 0 474 L (.int i :: .ref k :: S) (c, a, r) Q = AW d 0 475 L (.int (a k i.toNatClampNeg) :: S) (c, a, r) Q := AW_ald cdn_L_law rfl (by decide) ht hi
set_option maxRecDepth 20000 in
theorem st_L_law_475 {d : Nat} {S : List Value} {h : am_H} {Q : Option Value → am_H → Prop} {l1 l2 l3 : Option Value} {x : Nat} : AW d 0 475 [some (.ref x), l1, l2, l3] S h Q = AW d 0 476 [some (.ref x), l1, l2, l3] (.ref x :: S) h Q := AW_n cdn_L_law rfl rfl
set_option maxRecDepth 20000 in
theorem st_L_law_476 {d : Nat} {S : List Value} {h : am_H} {Q : Option Value → am_H → Prop} {l0 l1 l2 : Option Value} {x : Int32} : AW d 0 476 [l0, l1, l2, some (.int x)] S h Q = AW d 0 477 [l0, l1, l2, some (.int x)] (.int x :: S) h Q := AW_n cdn_L_law rfl rfl
set_option maxRecDepth 20000 in
theorem st_L_law_477 {d : Nat} {L : am_L} {S : List Value} {h : am_H} {Q : Option Value → am_H → Prop} : AW d 0 477 L S h Q = AW d 0 478 L (.int 3 :: S) h Q := AW_n cdn_L_law rfl rfl
set_option maxRecDepth 20000 in
theorem st_L_law_478 {d : Nat} {L : am_L} {S : List Value} {h : am_H} {Q : Option Value → am_H → Prop} {x y : Int32} : AW d 0 478 L (.int y :: .int x :: S) h Q = AW d 0 479 L (.int (x + y) :: S) h Q := AW_n cdn_L_law rfl rfl
set_option maxRecDepth 20000 in
theorem st_L_law_479 {d : Nat} {L : am_L} {S : List Value} {Q : Option Value → am_H → Prop} {c : List (Nat × Nat)} {a : Nat → Nat → Int32} {r : Nat → Nat → Option Nat} {i : Int32} {k : Nat} (ht : am_tag c k = 20) (hi : inb i (am_len c k)) : AW d 0 479 L (.int i :: .ref k :: S) (c, a, r) Q = AW d 0 480 L (.int (a k i.toNatClampNeg) :: S) (c, a, r) Q := AW_ald cdn_L_law rfl (by decide) ht hi
set_option maxRecDepth 20000 in
theorem st_L_law_480 {d : Nat} {S : List Value} {h : am_H} {Q : Option Value → am_H → Prop} {l1 l2 l3 : Option Value} {x : Nat} : AW d 0 480 [some (.ref x), l1, l2, l3] S h Q = AW d 0 481 [some (.ref x), l1, l2, l3] (.ref x :: S) h Q := AW_n cdn_L_law rfl rfl
set_option maxRecDepth 20000 in
theorem st_L_law_481 {d : Nat} {S : List Value} {h : am_H} {Q : Option Value → am_H → Prop} {l0 l1 l2 : Option Value} {x : Int32} : AW d 0 481 [l0, l1, l2, some (.int x)] S h Q = AW d 0 482 [l0, l1, l2, some (.int x)] (.int x :: S) h Q := AW_n cdn_L_law rfl rfl
set_option maxRecDepth 20000 in
theorem st_L_law_482 {d : Nat} {L : am_L} {S : List Value} {h : am_H} {Q : Option Value → am_H → Prop} : AW d 0 482 L S h Q = AW d 0 483 L (.int 4 :: S) h Q := AW_n cdn_L_law rfl rfl
set_option maxRecDepth 20000 in
theorem st_L_law_483 {d : Nat} {L : am_L} {S : List Value} {h : am_H} {Q : Option Value → am_H → Prop} {x y : Int32} : AW d 0 483 L (.int y :: .int x :: S) h Q = AW d 0 484 L (.int (x + y) :: S) h Q := AW_n cdn_L_law rfl rfl
set_option maxRecDepth 20000 in
theorem st_L_law_484 {d : Nat} {L : am_L} {S : List Value} {Q : Option Value → am_H → Prop} {c : List (Nat × Nat)} {a : Nat → Nat → Int32} {r : Nat → Nat → Option Nat} {i : Int32} {k : Nat} (ht : am_tag c k = 20) (hi : inb i (am_len c k)) : AW d 0 484 L (.int i :: .ref k :: S) (c, a, r) Q = AW d 0 485 L (.int (a k i.toNatClampNeg) :: S) (c, a, r) Q := AW_ald cdn_L_law rfl (by decide) ht hi
set_option maxRecDepth 20000 in
theorem st_L_law_485 {d : Nat} {S : List Value} {h : am_H} {Q : Option Value → am_H → Prop} {l1 l2 l3 : Option Value} {x : Nat} : AW d 0 485 [some (.ref x), l1, l2, l3] S h Q = AW d 0 486 [some (.ref x), l1, l2, l3] (.ref x :: S) h Q := AW_n cdn_L_law rfl rfl
set_option maxRecDepth 20000 in
theorem st_L_law_486 {d : Nat} {S : List Value} {h : am_H} {Q : Option Value → am_H → Prop} {l0 l1 l2 : Option Value} {x : Int32} : AW d 0 486 [l0, l1, l2, some (.int x)] S h Q = AW d 0 487 [l0, l1, l2, some (.int x)] (.int x :: S) h Q := AW_n cdn_L_law rfl rfl
set_option maxRecDepth 20000 in
theorem st_L_law_487 {d : Nat} {L : am_L} {S : List Value} {h : am_H} {Q : Option Value → am_H → Prop} : AW d 0 487 L S h Q = AW d 0 488 L (.int 5 :: S) h Q := AW_n cdn_L_law rfl rfl
set_option maxRecDepth 20000 in
theorem st_L_law_488 {d : Nat} {L : am_L} {S : List Value} {h : am_H} {Q : Option Value → am_H → Prop} {x y : Int32} : AW d 0 488 L (.int y :: .int x :: S) h Q = AW d 0 489 L (.int (x + y) :: S) h Q := AW_n cdn_L_law rfl rfl
set_option maxRecDepth 20000 in
theorem st_L_law_489 {d : Nat} {L : am_L} {S : List Value} {Q : Option Value → am_H → Prop} {c : List (Nat × Nat)} {a : Nat → Nat → Int32} {r : Nat → Nat → Option Nat} {i : Int32} {k : Nat} (ht : am_tag c k = 20) (hi : inb i (am_len c k)) : AW d 0 489 L (.int i :: .ref k :: S) (c, a, r) Q = AW d 0 490 L (.int (a k i.toNatClampNeg) :: S) (c, a, r) Q := AW_ald cdn_L_law rfl (by decide) ht hi
set_option maxRecDepth 20000 in
theorem st_L_law_490 {d : Nat} {L : am_L} {S : List Value} {h : am_H} {Q : Option Value → am_H → Prop} {x : Int32} : AW d 0 490 L (.int x :: S) h Q = if x = 0 then AW d 0 497 L S h Q else AW d 0 493 L S h Q := AW_if cdn_L_law rfl rfl
set_option maxRecDepth 20000 in
theorem st_L_law_493 {d : Nat} {L : am_L} {S : List Value} {h : am_H} {Q : Option Value → am_H → Prop} : AW d 0 493 L S h Q = AW d 0 494 L (.int 1 :: S) h Q := AW_n cdn_L_law rfl rfl
set_option maxRecDepth 20000 in
theorem st_L_law_494 {d : Nat} {L : am_L} {S : List Value} {h : am_H} {Q : Option Value → am_H → Prop} : AW d 0 494 L S h Q = AW d 0 498 L S h Q := AW_n cdn_L_law rfl rfl
set_option maxRecDepth 20000 in
theorem st_L_law_497 {d : Nat} {L : am_L} {S : List Value} {h : am_H} {Q : Option Value → am_H → Prop} : AW d 0 497 L S h Q = AW d 0 498 L (.int 0 :: S) h Q := AW_n cdn_L_law rfl rfl
set_option maxRecDepth 20000 in
theorem st_L_law_498 {d : Nat} {L : am_L} {S : List Value} {Q : Option Value → am_H → Prop} {c : List (Nat × Nat)} {a : Nat → Nat → Int32} {r : Nat → Nat → Option Nat} {k : Nat} {x1 : Int32} {x2 : Int32} {x3 : Int32} {x4 : Int32} {x5 : Int32} (ht : am_tag c k = 9) (hS : (S.map fun v => v.category).sum ≤ 8) : AW (d + 1) 0 498 L (.int x5 :: .int x4 :: .int x3 :: .int x2 :: .int x1 :: .ref k :: S) (c, a, r) Q = CALL d 78 [.ref k, .int x1, .int x2, .int x3, .int x4, .int x5] (c, a, r) (fun v h9 => AW (d + 1) 0 501 L (v.toList ++ S) h9 Q) := AW_invV (n := 5) (t := [.int x5, .int x4, .int x3, .int x2, .int x1]) cdn_L_law rfl (by decide) (Nat.le_of_ble_eq_true rfl) rfl rfl ht hS
set_option maxRecDepth 20000 in
theorem st_L_law_501 {d : Nat} {S : List Value} {h : am_H} {Q : Option Value → am_H → Prop} {l0 l1 l3 : Option Value} {x : Nat} : AW d 0 501 [l0, l1, some (.ref x), l3] S h Q = AW d 0 502 [l0, l1, some (.ref x), l3] (.ref x :: S) h Q := AW_n cdn_L_law rfl rfl
set_option maxRecDepth 20000 in
theorem st_L_law_502 {d : Nat} {S : List Value} {h : am_H} {Q : Option Value → am_H → Prop} {l1 l2 l3 : Option Value} {x : Nat} : AW d 0 502 [some (.ref x), l1, l2, l3] S h Q = AW d 0 503 [some (.ref x), l1, l2, l3] (.ref x :: S) h Q := AW_n cdn_L_law rfl rfl
set_option maxRecDepth 20000 in
theorem st_L_law_503 {d : Nat} {S : List Value} {h : am_H} {Q : Option Value → am_H → Prop} {l0 l1 l2 : Option Value} {x : Int32} : AW d 0 503 [l0, l1, l2, some (.int x)] S h Q = AW d 0 504 [l0, l1, l2, some (.int x)] (.int x :: S) h Q := AW_n cdn_L_law rfl rfl
set_option maxRecDepth 20000 in
theorem st_L_law_504 {d : Nat} {L : am_L} {S : List Value} {h : am_H} {Q : Option Value → am_H → Prop} : AW d 0 504 L S h Q = AW d 0 505 L (.int 1 :: S) h Q := AW_n cdn_L_law rfl rfl
set_option maxRecDepth 20000 in
theorem st_L_law_505 {d : Nat} {L : am_L} {S : List Value} {h : am_H} {Q : Option Value → am_H → Prop} {x y : Int32} : AW d 0 505 L (.int y :: .int x :: S) h Q = AW d 0 506 L (.int (x + y) :: S) h Q := AW_n cdn_L_law rfl rfl
set_option maxRecDepth 20000 in
theorem st_L_law_506 {d : Nat} {L : am_L} {S : List Value} {Q : Option Value → am_H → Prop} {c : List (Nat × Nat)} {a : Nat → Nat → Int32} {r : Nat → Nat → Option Nat} {i : Int32} {k : Nat} (ht : am_tag c k = 20) (hi : inb i (am_len c k)) : AW d 0 506 L (.int i :: .ref k :: S) (c, a, r) Q = AW d 0 507 L (.int (a k i.toNatClampNeg) :: S) (c, a, r) Q := AW_ald cdn_L_law rfl (by decide) ht hi
set_option maxRecDepth 20000 in
theorem st_L_law_507 {d : Nat} {S : List Value} {h : am_H} {Q : Option Value → am_H → Prop} {l1 l2 l3 : Option Value} {x : Nat} : AW d 0 507 [some (.ref x), l1, l2, l3] S h Q = AW d 0 508 [some (.ref x), l1, l2, l3] (.ref x :: S) h Q := AW_n cdn_L_law rfl rfl
set_option maxRecDepth 20000 in
theorem st_L_law_508 {d : Nat} {S : List Value} {h : am_H} {Q : Option Value → am_H → Prop} {l0 l1 l2 : Option Value} {x : Int32} : AW d 0 508 [l0, l1, l2, some (.int x)] S h Q = AW d 0 509 [l0, l1, l2, some (.int x)] (.int x :: S) h Q := AW_n cdn_L_law rfl rfl
set_option maxRecDepth 20000 in
theorem st_L_law_509 {d : Nat} {L : am_L} {S : List Value} {h : am_H} {Q : Option Value → am_H → Prop} : AW d 0 509 L S h Q = AW d 0 510 L (.int 2 :: S) h Q := AW_n cdn_L_law rfl rfl
set_option maxRecDepth 20000 in
theorem st_L_law_510 {d : Nat} {L : am_L} {S : List Value} {h : am_H} {Q : Option Value → am_H → Prop} {x y : Int32} : AW d 0 510 L (.int y :: .int x :: S) h Q = AW d 0 511 L (.int (x + y) :: S) h Q := AW_n cdn_L_law rfl rfl
set_option maxRecDepth 20000 in
theorem st_L_law_511 {d : Nat} {L : am_L} {S : List Value} {Q : Option Value → am_H → Prop} {c : List (Nat × Nat)} {a : Nat → Nat → Int32} {r : Nat → Nat → Option Nat} {i : Int32} {k : Nat} (ht : am_tag c k = 20) (hi : inb i (am_len c k)) : AW d 0 511 L (.int i :: .ref k :: S) (c, a, r) Q = AW d 0 512 L (.int (a k i.toNatClampNeg) :: S) (c, a, r) Q := AW_ald cdn_L_law rfl (by decide) ht hi
set_option maxRecDepth 20000 in
theorem st_L_law_512 {d : Nat} {S : List Value} {h : am_H} {Q : Option Value → am_H → Prop} {l1 l2 l3 : Option Value} {x : Nat} : AW d 0 512 [some (.ref x), l1, l2, l3] S h Q = AW d 0 513 [some (.ref x), l1, l2, l3] (.ref x :: S) h Q := AW_n cdn_L_law rfl rfl
set_option maxRecDepth 20000 in
theorem st_L_law_513 {d : Nat} {S : List Value} {h : am_H} {Q : Option Value → am_H → Prop} {l0 l1 l2 : Option Value} {x : Int32} : AW d 0 513 [l0, l1, l2, some (.int x)] S h Q = AW d 0 514 [l0, l1, l2, some (.int x)] (.int x :: S) h Q := AW_n cdn_L_law rfl rfl
set_option maxRecDepth 20000 in
theorem st_L_law_514 {d : Nat} {L : am_L} {S : List Value} {h : am_H} {Q : Option Value → am_H → Prop} : AW d 0 514 L S h Q = AW d 0 515 L (.int 3 :: S) h Q := AW_n cdn_L_law rfl rfl
set_option maxRecDepth 20000 in
theorem st_L_law_515 {d : Nat} {L : am_L} {S : List Value} {h : am_H} {Q : Option Value → am_H → Prop} {x y : Int32} : AW d 0 515 L (.int y :: .int x :: S) h Q = AW d 0 516 L (.int (x + y) :: S) h Q := AW_n cdn_L_law rfl rfl
set_option maxRecDepth 20000 in
theorem st_L_law_516 {d : Nat} {L : am_L} {S : List Value} {Q : Option Value → am_H → Prop} {c : List (Nat × Nat)} {a : Nat → Nat → Int32} {r : Nat → Nat → Option Nat} {i : Int32} {k : Nat} (ht : am_tag c k = 20) (hi : inb i (am_len c k)) : AW d 0 516 L (.int i :: .ref k :: S) (c, a, r) Q = AW d 0 517 L (.int (a k i.toNatClampNeg) :: S) (c, a, r) Q := AW_ald cdn_L_law rfl (by decide) ht hi
set_option maxRecDepth 20000 in
theorem st_L_law_517 {d : Nat} {S : List Value} {h : am_H} {Q : Option Value → am_H → Prop} {l1 l2 l3 : Option Value} {x : Nat} : AW d 0 517 [some (.ref x), l1, l2, l3] S h Q = AW d 0 518 [some (.ref x), l1, l2, l3] (.ref x :: S) h Q := AW_n cdn_L_law rfl rfl
set_option maxRecDepth 20000 in
theorem st_L_law_518 {d : Nat} {S : List Value} {h : am_H} {Q : Option Value → am_H → Prop} {l0 l1 l2 : Option Value} {x : Int32} : AW d 0 518 [l0, l1, l2, some (.int x)] S h Q = AW d 0 519 [l0, l1, l2, some (.int x)] (.int x :: S) h Q := AW_n cdn_L_law rfl rfl
set_option maxRecDepth 20000 in
theorem st_L_law_519 {d : Nat} {L : am_L} {S : List Value} {h : am_H} {Q : Option Value → am_H → Prop} : AW d 0 519 L S h Q = AW d 0 520 L (.int 4 :: S) h Q := AW_n cdn_L_law rfl rfl
set_option maxRecDepth 20000 in
theorem st_L_law_520 {d : Nat} {L : am_L} {S : List Value} {h : am_H} {Q : Option Value → am_H → Prop} {x y : Int32} : AW d 0 520 L (.int y :: .int x :: S) h Q = AW d 0 521 L (.int (x + y) :: S) h Q := AW_n cdn_L_law rfl rfl
set_option maxRecDepth 20000 in
theorem st_L_law_521 {d : Nat} {L : am_L} {S : List Value} {Q : Option Value → am_H → Prop} {c : List (Nat × Nat)} {a : Nat → Nat → Int32} {r : Nat → Nat → Option Nat} {i : Int32} {k : Nat} (ht : am_tag c k = 20) (hi : inb i (am_len c k)) : AW d 0 521 L (.int i :: .ref k :: S) (c, a, r) Q = AW d 0 522 L (.int (a k i.toNatClampNeg) :: S) (c, a, r) Q := AW_ald cdn_L_law rfl (by decide) ht hi
set_option maxRecDepth 20000 in
theorem st_L_law_522 {d : Nat} {S : List Value} {h : am_H} {Q : Option Value → am_H → Prop} {l1 l2 l3 : Option Value} {x : Nat} : AW d 0 522 [some (.ref x), l1, l2, l3] S h Q = AW d 0 523 [some (.ref x), l1, l2, l3] (.ref x :: S) h Q := AW_n cdn_L_law rfl rfl
set_option maxRecDepth 20000 in
theorem st_L_law_523 {d : Nat} {S : List Value} {h : am_H} {Q : Option Value → am_H → Prop} {l0 l1 l2 : Option Value} {x : Int32} : AW d 0 523 [l0, l1, l2, some (.int x)] S h Q = AW d 0 524 [l0, l1, l2, some (.int x)] (.int x :: S) h Q := AW_n cdn_L_law rfl rfl
set_option maxRecDepth 20000 in
theorem st_L_law_524 {d : Nat} {L : am_L} {S : List Value} {h : am_H} {Q : Option Value → am_H → Prop} : AW d 0 524 L S h Q = AW d 0 525 L (.int 5 :: S) h Q := AW_n cdn_L_law rfl rfl
set_option maxRecDepth 20000 in
theorem st_L_law_525 {d : Nat} {L : am_L} {S : List Value} {h : am_H} {Q : Option Value → am_H → Prop} {x y : Int32} : AW d 0 525 L (.int y :: .int x :: S) h Q = AW d 0 526 L (.int (x + y) :: S) h Q := AW_n cdn_L_law rfl rfl
set_option maxRecDepth 20000 in
theorem st_L_law_526 {d : Nat} {L : am_L} {S : List Value} {Q : Option Value → am_H → Prop} {c : List (Nat × Nat)} {a : Nat → Nat → Int32} {r : Nat → Nat → Option Nat} {i : Int32} {k : Nat} (ht : am_tag c k = 20) (hi : inb i (am_len c k)) : AW d 0 526 L (.int i :: .ref k :: S) (c, a, r) Q = AW d 0 527 L (.int (a k i.toNatClampNeg) :: S) (c, a, r) Q := AW_ald cdn_L_law rfl (by decide) ht hi
set_option maxRecDepth 20000 in
theorem st_L_law_527 {d : Nat} {L : am_L} {S : List Value} {h : am_H} {Q : Option Value → am_H → Prop} {x : Int32} : AW d 0 527 L (.int x :: S) h Q = if x = 0 then AW d 0 534 L S h Q else AW d 0 530 L S h Q := AW_if cdn_L_law rfl rfl
set_option maxRecDepth 20000 in
theorem st_L_law_530 {d : Nat} {L : am_L} {S : List Value} {h : am_H} {Q : Option Value → am_H → Prop} : AW d 0 530 L S h Q = AW d 0 531 L (.int 1 :: S) h Q := AW_n cdn_L_law rfl rfl
set_option maxRecDepth 20000 in
theorem st_L_law_531 {d : Nat} {L : am_L} {S : List Value} {h : am_H} {Q : Option Value → am_H → Prop} : AW d 0 531 L S h Q = AW d 0 535 L S h Q := AW_n cdn_L_law rfl rfl
set_option maxRecDepth 20000 in
theorem st_L_law_534 {d : Nat} {L : am_L} {S : List Value} {h : am_H} {Q : Option Value → am_H → Prop} : AW d 0 534 L S h Q = AW d 0 535 L (.int 0 :: S) h Q := AW_n cdn_L_law rfl rfl
set_option maxRecDepth 20000 in
theorem st_L_law_535 {d : Nat} {L : am_L} {S : List Value} {Q : Option Value → am_H → Prop} {c : List (Nat × Nat)} {a : Nat → Nat → Int32} {r : Nat → Nat → Option Nat} {k : Nat} {x1 : Int32} {x2 : Int32} {x3 : Int32} {x4 : Int32} {x5 : Int32} (ht : am_tag c k = 10) (hS : (S.map fun v => v.category).sum ≤ 8) : AW (d + 1) 0 535 L (.int x5 :: .int x4 :: .int x3 :: .int x2 :: .int x1 :: .ref k :: S) (c, a, r) Q = CALL d 141 [.ref k, .int x1, .int x2, .int x3, .int x4, .int x5] (c, a, r) (fun v h9 => AW (d + 1) 0 538 L (v.toList ++ S) h9 Q) := AW_invV (n := 5) (t := [.int x5, .int x4, .int x3, .int x2, .int x1]) cdn_L_law rfl (by decide) (Nat.le_of_ble_eq_true rfl) rfl rfl ht hS
set_option maxRecDepth 20000 in
theorem st_L_law_538 {d : Nat} {L : am_L} {S : List Value} {h : am_H} {Q : Option Value → am_H → Prop} {x y : Int32} : AW d 0 538 L (.int y :: .int x :: S) h Q = if x = y then AW d 0 1579 L S h Q else AW d 0 541 L S h Q := AW_if cdn_L_law rfl rfl
set_option maxRecDepth 20000 in
theorem st_L_law_541 {d : Nat} {L : am_L} {S : List Value} {h : am_H} {Q : Option Value → am_H → Prop} : AW d 0 541 L S h Q = AW d 0 542 L (.int 0 :: S) h Q := AW_n cdn_L_law rfl rfl
set_option maxRecDepth 20000 in
theorem st_L_law_542 {d : Nat} {L : am_L} {h : am_H} {Q : Option Value → am_H → Prop} {x : Int32} (hx : x = 0 ∨ x = 1) : AW d 0 542 L [.int x] h Q = Q (some (.int x)) h := AW_zret cdn_L_law rfl hx
set_option maxRecDepth 20000 in
theorem st_L_law_543 {d : Nat} {S : List Value} {h : am_H} {Q : Option Value → am_H → Prop} {l0 l2 l3 : Option Value} {x : Nat} : AW d 0 543 [l0, some (.ref x), l2, l3] S h Q = AW d 0 544 [l0, some (.ref x), l2, l3] (.ref x :: S) h Q := AW_n cdn_L_law rfl rfl
set_option maxRecDepth 20000 in
theorem st_L_law_544 {d : Nat} {S : List Value} {h : am_H} {Q : Option Value → am_H → Prop} {l1 l2 l3 : Option Value} {x : Nat} : AW d 0 544 [some (.ref x), l1, l2, l3] S h Q = AW d 0 545 [some (.ref x), l1, l2, l3] (.ref x :: S) h Q := AW_n cdn_L_law rfl rfl
set_option maxRecDepth 20000 in
theorem st_L_law_545 {d : Nat} {S : List Value} {h : am_H} {Q : Option Value → am_H → Prop} {l0 l1 l2 : Option Value} {x : Int32} : AW d 0 545 [l0, l1, l2, some (.int x)] S h Q = AW d 0 546 [l0, l1, l2, some (.int x)] (.int x :: S) h Q := AW_n cdn_L_law rfl rfl
set_option maxRecDepth 20000 in
theorem st_L_law_546 {d : Nat} {L : am_L} {S : List Value} {h : am_H} {Q : Option Value → am_H → Prop} : AW d 0 546 L S h Q = AW d 0 547 L (.int 1 :: S) h Q := AW_n cdn_L_law rfl rfl
set_option maxRecDepth 20000 in
theorem st_L_law_547 {d : Nat} {L : am_L} {S : List Value} {h : am_H} {Q : Option Value → am_H → Prop} {x y : Int32} : AW d 0 547 L (.int y :: .int x :: S) h Q = AW d 0 548 L (.int (x + y) :: S) h Q := AW_n cdn_L_law rfl rfl
set_option maxRecDepth 20000 in
theorem st_L_law_548 {d : Nat} {L : am_L} {S : List Value} {Q : Option Value → am_H → Prop} {c : List (Nat × Nat)} {a : Nat → Nat → Int32} {r : Nat → Nat → Option Nat} {i : Int32} {k : Nat} (ht : am_tag c k = 20) (hi : inb i (am_len c k)) : AW d 0 548 L (.int i :: .ref k :: S) (c, a, r) Q = AW d 0 549 L (.int (a k i.toNatClampNeg) :: S) (c, a, r) Q := AW_ald cdn_L_law rfl (by decide) ht hi
set_option maxRecDepth 20000 in
theorem st_L_law_549 {d : Nat} {S : List Value} {h : am_H} {Q : Option Value → am_H → Prop} {l1 l2 l3 : Option Value} {x : Nat} : AW d 0 549 [some (.ref x), l1, l2, l3] S h Q = AW d 0 550 [some (.ref x), l1, l2, l3] (.ref x :: S) h Q := AW_n cdn_L_law rfl rfl
set_option maxRecDepth 20000 in
theorem st_L_law_550 {d : Nat} {S : List Value} {h : am_H} {Q : Option Value → am_H → Prop} {l0 l1 l2 : Option Value} {x : Int32} : AW d 0 550 [l0, l1, l2, some (.int x)] S h Q = AW d 0 551 [l0, l1, l2, some (.int x)] (.int x :: S) h Q := AW_n cdn_L_law rfl rfl
set_option maxRecDepth 20000 in
theorem st_L_law_551 {d : Nat} {L : am_L} {S : List Value} {h : am_H} {Q : Option Value → am_H → Prop} : AW d 0 551 L S h Q = AW d 0 552 L (.int 2 :: S) h Q := AW_n cdn_L_law rfl rfl
set_option maxRecDepth 20000 in
theorem st_L_law_552 {d : Nat} {L : am_L} {S : List Value} {h : am_H} {Q : Option Value → am_H → Prop} {x y : Int32} : AW d 0 552 L (.int y :: .int x :: S) h Q = AW d 0 553 L (.int (x + y) :: S) h Q := AW_n cdn_L_law rfl rfl
set_option maxRecDepth 20000 in
theorem st_L_law_553 {d : Nat} {L : am_L} {S : List Value} {Q : Option Value → am_H → Prop} {c : List (Nat × Nat)} {a : Nat → Nat → Int32} {r : Nat → Nat → Option Nat} {i : Int32} {k : Nat} (ht : am_tag c k = 20) (hi : inb i (am_len c k)) : AW d 0 553 L (.int i :: .ref k :: S) (c, a, r) Q = AW d 0 554 L (.int (a k i.toNatClampNeg) :: S) (c, a, r) Q := AW_ald cdn_L_law rfl (by decide) ht hi
set_option maxRecDepth 20000 in
theorem st_L_law_554 {d : Nat} {L : am_L} {S : List Value} {Q : Option Value → am_H → Prop} {c : List (Nat × Nat)} {a : Nat → Nat → Int32} {r : Nat → Nat → Option Nat} {k : Nat} {x1 : Int32} {x2 : Int32} (ht : am_tag c k = 9) (hS : (S.map fun v => v.category).sum ≤ 8) : AW (d + 1) 0 554 L (.int x2 :: .int x1 :: .ref k :: S) (c, a, r) Q = CALL d 79 [.ref k, .int x1, .int x2] (c, a, r) (fun v h9 => AW (d + 1) 0 557 L (v.toList ++ S) h9 Q) := AW_invV (n := 2) (t := [.int x2, .int x1]) cdn_L_law rfl (by decide) (Nat.le_of_ble_eq_true rfl) rfl rfl ht hS
set_option maxRecDepth 20000 in
theorem st_L_law_557 {d : Nat} {S : List Value} {h : am_H} {Q : Option Value → am_H → Prop} {l0 l1 l3 : Option Value} {x : Nat} : AW d 0 557 [l0, l1, some (.ref x), l3] S h Q = AW d 0 558 [l0, l1, some (.ref x), l3] (.ref x :: S) h Q := AW_n cdn_L_law rfl rfl
set_option maxRecDepth 20000 in
theorem st_L_law_558 {d : Nat} {S : List Value} {h : am_H} {Q : Option Value → am_H → Prop} {l1 l2 l3 : Option Value} {x : Nat} : AW d 0 558 [some (.ref x), l1, l2, l3] S h Q = AW d 0 559 [some (.ref x), l1, l2, l3] (.ref x :: S) h Q := AW_n cdn_L_law rfl rfl
set_option maxRecDepth 20000 in
theorem st_L_law_559 {d : Nat} {S : List Value} {h : am_H} {Q : Option Value → am_H → Prop} {l0 l1 l2 : Option Value} {x : Int32} : AW d 0 559 [l0, l1, l2, some (.int x)] S h Q = AW d 0 560 [l0, l1, l2, some (.int x)] (.int x :: S) h Q := AW_n cdn_L_law rfl rfl
set_option maxRecDepth 20000 in
theorem st_L_law_560 {d : Nat} {L : am_L} {S : List Value} {h : am_H} {Q : Option Value → am_H → Prop} : AW d 0 560 L S h Q = AW d 0 561 L (.int 1 :: S) h Q := AW_n cdn_L_law rfl rfl
set_option maxRecDepth 20000 in
theorem st_L_law_561 {d : Nat} {L : am_L} {S : List Value} {h : am_H} {Q : Option Value → am_H → Prop} {x y : Int32} : AW d 0 561 L (.int y :: .int x :: S) h Q = AW d 0 562 L (.int (x + y) :: S) h Q := AW_n cdn_L_law rfl rfl
set_option maxRecDepth 20000 in
theorem st_L_law_562 {d : Nat} {L : am_L} {S : List Value} {Q : Option Value → am_H → Prop} {c : List (Nat × Nat)} {a : Nat → Nat → Int32} {r : Nat → Nat → Option Nat} {i : Int32} {k : Nat} (ht : am_tag c k = 20) (hi : inb i (am_len c k)) : AW d 0 562 L (.int i :: .ref k :: S) (c, a, r) Q = AW d 0 563 L (.int (a k i.toNatClampNeg) :: S) (c, a, r) Q := AW_ald cdn_L_law rfl (by decide) ht hi
set_option maxRecDepth 20000 in
theorem st_L_law_563 {d : Nat} {S : List Value} {h : am_H} {Q : Option Value → am_H → Prop} {l1 l2 l3 : Option Value} {x : Nat} : AW d 0 563 [some (.ref x), l1, l2, l3] S h Q = AW d 0 564 [some (.ref x), l1, l2, l3] (.ref x :: S) h Q := AW_n cdn_L_law rfl rfl
set_option maxRecDepth 20000 in
theorem st_L_law_564 {d : Nat} {S : List Value} {h : am_H} {Q : Option Value → am_H → Prop} {l0 l1 l2 : Option Value} {x : Int32} : AW d 0 564 [l0, l1, l2, some (.int x)] S h Q = AW d 0 565 [l0, l1, l2, some (.int x)] (.int x :: S) h Q := AW_n cdn_L_law rfl rfl
set_option maxRecDepth 20000 in
theorem st_L_law_565 {d : Nat} {L : am_L} {S : List Value} {h : am_H} {Q : Option Value → am_H → Prop} : AW d 0 565 L S h Q = AW d 0 566 L (.int 2 :: S) h Q := AW_n cdn_L_law rfl rfl
set_option maxRecDepth 20000 in
theorem st_L_law_566 {d : Nat} {L : am_L} {S : List Value} {h : am_H} {Q : Option Value → am_H → Prop} {x y : Int32} : AW d 0 566 L (.int y :: .int x :: S) h Q = AW d 0 567 L (.int (x + y) :: S) h Q := AW_n cdn_L_law rfl rfl
set_option maxRecDepth 20000 in
theorem st_L_law_567 {d : Nat} {L : am_L} {S : List Value} {Q : Option Value → am_H → Prop} {c : List (Nat × Nat)} {a : Nat → Nat → Int32} {r : Nat → Nat → Option Nat} {i : Int32} {k : Nat} (ht : am_tag c k = 20) (hi : inb i (am_len c k)) : AW d 0 567 L (.int i :: .ref k :: S) (c, a, r) Q = AW d 0 568 L (.int (a k i.toNatClampNeg) :: S) (c, a, r) Q := AW_ald cdn_L_law rfl (by decide) ht hi
set_option maxRecDepth 20000 in
theorem st_L_law_568 {d : Nat} {L : am_L} {S : List Value} {Q : Option Value → am_H → Prop} {c : List (Nat × Nat)} {a : Nat → Nat → Int32} {r : Nat → Nat → Option Nat} {k : Nat} {x1 : Int32} {x2 : Int32} (ht : am_tag c k = 10) (hS : (S.map fun v => v.category).sum ≤ 8) : AW (d + 1) 0 568 L (.int x2 :: .int x1 :: .ref k :: S) (c, a, r) Q = CALL d 142 [.ref k, .int x1, .int x2] (c, a, r) (fun v h9 => AW (d + 1) 0 571 L (v.toList ++ S) h9 Q) := AW_invV (n := 2) (t := [.int x2, .int x1]) cdn_L_law rfl (by decide) (Nat.le_of_ble_eq_true rfl) rfl rfl ht hS
set_option maxRecDepth 20000 in
theorem st_L_law_571 {d : Nat} {L : am_L} {S : List Value} {h : am_H} {Q : Option Value → am_H → Prop} {x y : Int32} : AW d 0 571 L (.int y :: .int x :: S) h Q = if x = y then AW d 0 1579 L S h Q else AW d 0 574 L S h Q := AW_if cdn_L_law rfl rfl
set_option maxRecDepth 20000 in
theorem st_L_law_574 {d : Nat} {L : am_L} {S : List Value} {h : am_H} {Q : Option Value → am_H → Prop} : AW d 0 574 L S h Q = AW d 0 575 L (.int 0 :: S) h Q := AW_n cdn_L_law rfl rfl
set_option maxRecDepth 20000 in
theorem st_L_law_575 {d : Nat} {L : am_L} {h : am_H} {Q : Option Value → am_H → Prop} {x : Int32} (hx : x = 0 ∨ x = 1) : AW d 0 575 L [.int x] h Q = Q (some (.int x)) h := AW_zret cdn_L_law rfl hx
set_option maxRecDepth 20000 in
theorem st_L_law_576 {d : Nat} {S : List Value} {h : am_H} {Q : Option Value → am_H → Prop} {l0 l2 l3 : Option Value} {x : Nat} : AW d 0 576 [l0, some (.ref x), l2, l3] S h Q = AW d 0 577 [l0, some (.ref x), l2, l3] (.ref x :: S) h Q := AW_n cdn_L_law rfl rfl
set_option maxRecDepth 20000 in
theorem st_L_law_577 {d : Nat} {S : List Value} {h : am_H} {Q : Option Value → am_H → Prop} {l1 l2 l3 : Option Value} {x : Nat} : AW d 0 577 [some (.ref x), l1, l2, l3] S h Q = AW d 0 578 [some (.ref x), l1, l2, l3] (.ref x :: S) h Q := AW_n cdn_L_law rfl rfl
set_option maxRecDepth 20000 in
theorem st_L_law_578 {d : Nat} {S : List Value} {h : am_H} {Q : Option Value → am_H → Prop} {l0 l1 l2 : Option Value} {x : Int32} : AW d 0 578 [l0, l1, l2, some (.int x)] S h Q = AW d 0 579 [l0, l1, l2, some (.int x)] (.int x :: S) h Q := AW_n cdn_L_law rfl rfl
set_option maxRecDepth 20000 in
theorem st_L_law_579 {d : Nat} {L : am_L} {S : List Value} {h : am_H} {Q : Option Value → am_H → Prop} : AW d 0 579 L S h Q = AW d 0 580 L (.int 1 :: S) h Q := AW_n cdn_L_law rfl rfl
set_option maxRecDepth 20000 in
theorem st_L_law_580 {d : Nat} {L : am_L} {S : List Value} {h : am_H} {Q : Option Value → am_H → Prop} {x y : Int32} : AW d 0 580 L (.int y :: .int x :: S) h Q = AW d 0 581 L (.int (x + y) :: S) h Q := AW_n cdn_L_law rfl rfl
set_option maxRecDepth 20000 in
theorem st_L_law_581 {d : Nat} {L : am_L} {S : List Value} {Q : Option Value → am_H → Prop} {c : List (Nat × Nat)} {a : Nat → Nat → Int32} {r : Nat → Nat → Option Nat} {i : Int32} {k : Nat} (ht : am_tag c k = 20) (hi : inb i (am_len c k)) : AW d 0 581 L (.int i :: .ref k :: S) (c, a, r) Q = AW d 0 582 L (.int (a k i.toNatClampNeg) :: S) (c, a, r) Q := AW_ald cdn_L_law rfl (by decide) ht hi
set_option maxRecDepth 20000 in
theorem st_L_law_582 {d : Nat} {S : List Value} {h : am_H} {Q : Option Value → am_H → Prop} {l1 l2 l3 : Option Value} {x : Nat} : AW d 0 582 [some (.ref x), l1, l2, l3] S h Q = AW d 0 583 [some (.ref x), l1, l2, l3] (.ref x :: S) h Q := AW_n cdn_L_law rfl rfl
set_option maxRecDepth 20000 in
theorem st_L_law_583 {d : Nat} {S : List Value} {h : am_H} {Q : Option Value → am_H → Prop} {l0 l1 l2 : Option Value} {x : Int32} : AW d 0 583 [l0, l1, l2, some (.int x)] S h Q = AW d 0 584 [l0, l1, l2, some (.int x)] (.int x :: S) h Q := AW_n cdn_L_law rfl rfl
set_option maxRecDepth 20000 in
theorem st_L_law_584 {d : Nat} {L : am_L} {S : List Value} {h : am_H} {Q : Option Value → am_H → Prop} : AW d 0 584 L S h Q = AW d 0 585 L (.int 2 :: S) h Q := AW_n cdn_L_law rfl rfl
set_option maxRecDepth 20000 in
theorem st_L_law_585 {d : Nat} {L : am_L} {S : List Value} {h : am_H} {Q : Option Value → am_H → Prop} {x y : Int32} : AW d 0 585 L (.int y :: .int x :: S) h Q = AW d 0 586 L (.int (x + y) :: S) h Q := AW_n cdn_L_law rfl rfl
set_option maxRecDepth 20000 in
theorem st_L_law_586 {d : Nat} {L : am_L} {S : List Value} {Q : Option Value → am_H → Prop} {c : List (Nat × Nat)} {a : Nat → Nat → Int32} {r : Nat → Nat → Option Nat} {i : Int32} {k : Nat} (ht : am_tag c k = 20) (hi : inb i (am_len c k)) : AW d 0 586 L (.int i :: .ref k :: S) (c, a, r) Q = AW d 0 587 L (.int (a k i.toNatClampNeg) :: S) (c, a, r) Q := AW_ald cdn_L_law rfl (by decide) ht hi
set_option maxRecDepth 20000 in
theorem st_L_law_587 {d : Nat} {L : am_L} {S : List Value} {Q : Option Value → am_H → Prop} {c : List (Nat × Nat)} {a : Nat → Nat → Int32} {r : Nat → Nat → Option Nat} {k : Nat} {x1 : Int32} {x2 : Int32} (ht : am_tag c k = 9) (hS : (S.map fun v => v.category).sum ≤ 8) : AW (d + 1) 0 587 L (.int x2 :: .int x1 :: .ref k :: S) (c, a, r) Q = CALL d 80 [.ref k, .int x1, .int x2] (c, a, r) (fun v h9 => AW (d + 1) 0 590 L (v.toList ++ S) h9 Q) := AW_invV (n := 2) (t := [.int x2, .int x1]) cdn_L_law rfl (by decide) (Nat.le_of_ble_eq_true rfl) rfl rfl ht hS
set_option maxRecDepth 20000 in
theorem st_L_law_590 {d : Nat} {S : List Value} {h : am_H} {Q : Option Value → am_H → Prop} {l0 l1 l3 : Option Value} {x : Nat} : AW d 0 590 [l0, l1, some (.ref x), l3] S h Q = AW d 0 591 [l0, l1, some (.ref x), l3] (.ref x :: S) h Q := AW_n cdn_L_law rfl rfl
set_option maxRecDepth 20000 in
theorem st_L_law_591 {d : Nat} {S : List Value} {h : am_H} {Q : Option Value → am_H → Prop} {l1 l2 l3 : Option Value} {x : Nat} : AW d 0 591 [some (.ref x), l1, l2, l3] S h Q = AW d 0 592 [some (.ref x), l1, l2, l3] (.ref x :: S) h Q := AW_n cdn_L_law rfl rfl
set_option maxRecDepth 20000 in
theorem st_L_law_592 {d : Nat} {S : List Value} {h : am_H} {Q : Option Value → am_H → Prop} {l0 l1 l2 : Option Value} {x : Int32} : AW d 0 592 [l0, l1, l2, some (.int x)] S h Q = AW d 0 593 [l0, l1, l2, some (.int x)] (.int x :: S) h Q := AW_n cdn_L_law rfl rfl
set_option maxRecDepth 20000 in
theorem st_L_law_593 {d : Nat} {L : am_L} {S : List Value} {h : am_H} {Q : Option Value → am_H → Prop} : AW d 0 593 L S h Q = AW d 0 594 L (.int 1 :: S) h Q := AW_n cdn_L_law rfl rfl
set_option maxRecDepth 20000 in
theorem st_L_law_594 {d : Nat} {L : am_L} {S : List Value} {h : am_H} {Q : Option Value → am_H → Prop} {x y : Int32} : AW d 0 594 L (.int y :: .int x :: S) h Q = AW d 0 595 L (.int (x + y) :: S) h Q := AW_n cdn_L_law rfl rfl
set_option maxRecDepth 20000 in
theorem st_L_law_595 {d : Nat} {L : am_L} {S : List Value} {Q : Option Value → am_H → Prop} {c : List (Nat × Nat)} {a : Nat → Nat → Int32} {r : Nat → Nat → Option Nat} {i : Int32} {k : Nat} (ht : am_tag c k = 20) (hi : inb i (am_len c k)) : AW d 0 595 L (.int i :: .ref k :: S) (c, a, r) Q = AW d 0 596 L (.int (a k i.toNatClampNeg) :: S) (c, a, r) Q := AW_ald cdn_L_law rfl (by decide) ht hi
set_option maxRecDepth 20000 in
theorem st_L_law_596 {d : Nat} {S : List Value} {h : am_H} {Q : Option Value → am_H → Prop} {l1 l2 l3 : Option Value} {x : Nat} : AW d 0 596 [some (.ref x), l1, l2, l3] S h Q = AW d 0 597 [some (.ref x), l1, l2, l3] (.ref x :: S) h Q := AW_n cdn_L_law rfl rfl
set_option maxRecDepth 20000 in
theorem st_L_law_597 {d : Nat} {S : List Value} {h : am_H} {Q : Option Value → am_H → Prop} {l0 l1 l2 : Option Value} {x : Int32} : AW d 0 597 [l0, l1, l2, some (.int x)] S h Q = AW d 0 598 [l0, l1, l2, some (.int x)] (.int x :: S) h Q := AW_n cdn_L_law rfl rfl
set_option maxRecDepth 20000 in
theorem st_L_law_598 {d : Nat} {L : am_L} {S : List Value} {h : am_H} {Q : Option Value → am_H → Prop} : AW d 0 598 L S h Q = AW d 0 599 L (.int 2 :: S) h Q := AW_n cdn_L_law rfl rfl
set_option maxRecDepth 20000 in
theorem st_L_law_599 {d : Nat} {L : am_L} {S : List Value} {h : am_H} {Q : Option Value → am_H → Prop} {x y : Int32} : AW d 0 599 L (.int y :: .int x :: S) h Q = AW d 0 600 L (.int (x + y) :: S) h Q := AW_n cdn_L_law rfl rfl
set_option maxRecDepth 20000 in
theorem st_L_law_600 {d : Nat} {L : am_L} {S : List Value} {Q : Option Value → am_H → Prop} {c : List (Nat × Nat)} {a : Nat → Nat → Int32} {r : Nat → Nat → Option Nat} {i : Int32} {k : Nat} (ht : am_tag c k = 20) (hi : inb i (am_len c k)) : AW d 0 600 L (.int i :: .ref k :: S) (c, a, r) Q = AW d 0 601 L (.int (a k i.toNatClampNeg) :: S) (c, a, r) Q := AW_ald cdn_L_law rfl (by decide) ht hi
set_option maxRecDepth 20000 in
theorem st_L_law_601 {d : Nat} {L : am_L} {S : List Value} {Q : Option Value → am_H → Prop} {c : List (Nat × Nat)} {a : Nat → Nat → Int32} {r : Nat → Nat → Option Nat} {k : Nat} {x1 : Int32} {x2 : Int32} (ht : am_tag c k = 10) (hS : (S.map fun v => v.category).sum ≤ 8) : AW (d + 1) 0 601 L (.int x2 :: .int x1 :: .ref k :: S) (c, a, r) Q = CALL d 143 [.ref k, .int x1, .int x2] (c, a, r) (fun v h9 => AW (d + 1) 0 604 L (v.toList ++ S) h9 Q) := AW_invV (n := 2) (t := [.int x2, .int x1]) cdn_L_law rfl (by decide) (Nat.le_of_ble_eq_true rfl) rfl rfl ht hS
set_option maxRecDepth 20000 in
theorem st_L_law_604 {d : Nat} {L : am_L} {S : List Value} {h : am_H} {Q : Option Value → am_H → Prop} {x y : Int32} : AW d 0 604 L (.int y :: .int x :: S) h Q = if x = y then AW d 0 1579 L S h Q else AW d 0 607 L S h Q := AW_if cdn_L_law rfl rfl
set_option maxRecDepth 20000 in
theorem st_L_law_607 {d : Nat} {L : am_L} {S : List Value} {h : am_H} {Q : Option Value → am_H → Prop} : AW d 0 607 L S h Q = AW d 0 608 L (.int 0 :: S) h Q := AW_n cdn_L_law rfl rfl
set_option maxRecDepth 20000 in
theorem st_L_law_608 {d : Nat} {L : am_L} {h : am_H} {Q : Option Value → am_H → Prop} {x : Int32} (hx : x = 0 ∨ x = 1) : AW d 0 608 L [.int x] h Q = Q (some (.int x)) h := AW_zret cdn_L_law rfl hx
set_option maxRecDepth 20000 in
theorem st_L_law_609 {d : Nat} {S : List Value} {h : am_H} {Q : Option Value → am_H → Prop} {l0 l2 l3 : Option Value} {x : Nat} : AW d 0 609 [l0, some (.ref x), l2, l3] S h Q = AW d 0 610 [l0, some (.ref x), l2, l3] (.ref x :: S) h Q := AW_n cdn_L_law rfl rfl
set_option maxRecDepth 20000 in
theorem st_L_law_610 {d : Nat} {S : List Value} {h : am_H} {Q : Option Value → am_H → Prop} {l1 l2 l3 : Option Value} {x : Nat} : AW d 0 610 [some (.ref x), l1, l2, l3] S h Q = AW d 0 611 [some (.ref x), l1, l2, l3] (.ref x :: S) h Q := AW_n cdn_L_law rfl rfl
set_option maxRecDepth 20000 in
theorem st_L_law_611 {d : Nat} {S : List Value} {h : am_H} {Q : Option Value → am_H → Prop} {l0 l1 l2 : Option Value} {x : Int32} : AW d 0 611 [l0, l1, l2, some (.int x)] S h Q = AW d 0 612 [l0, l1, l2, some (.int x)] (.int x :: S) h Q := AW_n cdn_L_law rfl rfl
set_option maxRecDepth 20000 in
theorem st_L_law_612 {d : Nat} {L : am_L} {S : List Value} {h : am_H} {Q : Option Value → am_H → Prop} : AW d 0 612 L S h Q = AW d 0 613 L (.int 1 :: S) h Q := AW_n cdn_L_law rfl rfl
set_option maxRecDepth 20000 in
theorem st_L_law_613 {d : Nat} {L : am_L} {S : List Value} {h : am_H} {Q : Option Value → am_H → Prop} {x y : Int32} : AW d 0 613 L (.int y :: .int x :: S) h Q = AW d 0 614 L (.int (x + y) :: S) h Q := AW_n cdn_L_law rfl rfl
set_option maxRecDepth 20000 in
theorem st_L_law_614 {d : Nat} {L : am_L} {S : List Value} {Q : Option Value → am_H → Prop} {c : List (Nat × Nat)} {a : Nat → Nat → Int32} {r : Nat → Nat → Option Nat} {i : Int32} {k : Nat} (ht : am_tag c k = 20) (hi : inb i (am_len c k)) : AW d 0 614 L (.int i :: .ref k :: S) (c, a, r) Q = AW d 0 615 L (.int (a k i.toNatClampNeg) :: S) (c, a, r) Q := AW_ald cdn_L_law rfl (by decide) ht hi
set_option maxRecDepth 20000 in
theorem st_L_law_615 {d : Nat} {S : List Value} {h : am_H} {Q : Option Value → am_H → Prop} {l1 l2 l3 : Option Value} {x : Nat} : AW d 0 615 [some (.ref x), l1, l2, l3] S h Q = AW d 0 616 [some (.ref x), l1, l2, l3] (.ref x :: S) h Q := AW_n cdn_L_law rfl rfl
set_option maxRecDepth 20000 in
theorem st_L_law_616 {d : Nat} {S : List Value} {h : am_H} {Q : Option Value → am_H → Prop} {l0 l1 l2 : Option Value} {x : Int32} : AW d 0 616 [l0, l1, l2, some (.int x)] S h Q = AW d 0 617 [l0, l1, l2, some (.int x)] (.int x :: S) h Q := AW_n cdn_L_law rfl rfl
set_option maxRecDepth 20000 in
theorem st_L_law_617 {d : Nat} {L : am_L} {S : List Value} {h : am_H} {Q : Option Value → am_H → Prop} : AW d 0 617 L S h Q = AW d 0 618 L (.int 2 :: S) h Q := AW_n cdn_L_law rfl rfl
set_option maxRecDepth 20000 in
theorem st_L_law_618 {d : Nat} {L : am_L} {S : List Value} {h : am_H} {Q : Option Value → am_H → Prop} {x y : Int32} : AW d 0 618 L (.int y :: .int x :: S) h Q = AW d 0 619 L (.int (x + y) :: S) h Q := AW_n cdn_L_law rfl rfl
set_option maxRecDepth 20000 in
theorem st_L_law_619 {d : Nat} {L : am_L} {S : List Value} {Q : Option Value → am_H → Prop} {c : List (Nat × Nat)} {a : Nat → Nat → Int32} {r : Nat → Nat → Option Nat} {i : Int32} {k : Nat} (ht : am_tag c k = 20) (hi : inb i (am_len c k)) : AW d 0 619 L (.int i :: .ref k :: S) (c, a, r) Q = AW d 0 620 L (.int (a k i.toNatClampNeg) :: S) (c, a, r) Q := AW_ald cdn_L_law rfl (by decide) ht hi
set_option maxRecDepth 20000 in
theorem st_L_law_620 {d : Nat} {L : am_L} {S : List Value} {Q : Option Value → am_H → Prop} {c : List (Nat × Nat)} {a : Nat → Nat → Int32} {r : Nat → Nat → Option Nat} {k : Nat} {x1 : Int32} {x2 : Int32} (ht : am_tag c k = 9) (hS : (S.map fun v => v.category).sum ≤ 8) : AW (d + 1) 0 620 L (.int x2 :: .int x1 :: .ref k :: S) (c, a, r) Q = CALL d 81 [.ref k, .int x1, .int x2] (c, a, r) (fun v h9 => AW (d + 1) 0 623 L (v.toList ++ S) h9 Q) := AW_invV (n := 2) (t := [.int x2, .int x1]) cdn_L_law rfl (by decide) (Nat.le_of_ble_eq_true rfl) rfl rfl ht hS
set_option maxRecDepth 20000 in
theorem st_L_law_623 {d : Nat} {S : List Value} {h : am_H} {Q : Option Value → am_H → Prop} {l0 l1 l3 : Option Value} {x : Nat} : AW d 0 623 [l0, l1, some (.ref x), l3] S h Q = AW d 0 624 [l0, l1, some (.ref x), l3] (.ref x :: S) h Q := AW_n cdn_L_law rfl rfl
set_option maxRecDepth 20000 in
theorem st_L_law_624 {d : Nat} {S : List Value} {h : am_H} {Q : Option Value → am_H → Prop} {l1 l2 l3 : Option Value} {x : Nat} : AW d 0 624 [some (.ref x), l1, l2, l3] S h Q = AW d 0 625 [some (.ref x), l1, l2, l3] (.ref x :: S) h Q := AW_n cdn_L_law rfl rfl
set_option maxRecDepth 20000 in
theorem st_L_law_625 {d : Nat} {S : List Value} {h : am_H} {Q : Option Value → am_H → Prop} {l0 l1 l2 : Option Value} {x : Int32} : AW d 0 625 [l0, l1, l2, some (.int x)] S h Q = AW d 0 626 [l0, l1, l2, some (.int x)] (.int x :: S) h Q := AW_n cdn_L_law rfl rfl
set_option maxRecDepth 20000 in
theorem st_L_law_626 {d : Nat} {L : am_L} {S : List Value} {h : am_H} {Q : Option Value → am_H → Prop} : AW d 0 626 L S h Q = AW d 0 627 L (.int 1 :: S) h Q := AW_n cdn_L_law rfl rfl
set_option maxRecDepth 20000 in
theorem st_L_law_627 {d : Nat} {L : am_L} {S : List Value} {h : am_H} {Q : Option Value → am_H → Prop} {x y : Int32} : AW d 0 627 L (.int y :: .int x :: S) h Q = AW d 0 628 L (.int (x + y) :: S) h Q := AW_n cdn_L_law rfl rfl
set_option maxRecDepth 20000 in
theorem st_L_law_628 {d : Nat} {L : am_L} {S : List Value} {Q : Option Value → am_H → Prop} {c : List (Nat × Nat)} {a : Nat → Nat → Int32} {r : Nat → Nat → Option Nat} {i : Int32} {k : Nat} (ht : am_tag c k = 20) (hi : inb i (am_len c k)) : AW d 0 628 L (.int i :: .ref k :: S) (c, a, r) Q = AW d 0 629 L (.int (a k i.toNatClampNeg) :: S) (c, a, r) Q := AW_ald cdn_L_law rfl (by decide) ht hi
set_option maxRecDepth 20000 in
theorem st_L_law_629 {d : Nat} {S : List Value} {h : am_H} {Q : Option Value → am_H → Prop} {l1 l2 l3 : Option Value} {x : Nat} : AW d 0 629 [some (.ref x), l1, l2, l3] S h Q = AW d 0 630 [some (.ref x), l1, l2, l3] (.ref x :: S) h Q := AW_n cdn_L_law rfl rfl
set_option maxRecDepth 20000 in
theorem st_L_law_630 {d : Nat} {S : List Value} {h : am_H} {Q : Option Value → am_H → Prop} {l0 l1 l2 : Option Value} {x : Int32} : AW d 0 630 [l0, l1, l2, some (.int x)] S h Q = AW d 0 631 [l0, l1, l2, some (.int x)] (.int x :: S) h Q := AW_n cdn_L_law rfl rfl
set_option maxRecDepth 20000 in
theorem st_L_law_631 {d : Nat} {L : am_L} {S : List Value} {h : am_H} {Q : Option Value → am_H → Prop} : AW d 0 631 L S h Q = AW d 0 632 L (.int 2 :: S) h Q := AW_n cdn_L_law rfl rfl
set_option maxRecDepth 20000 in
theorem st_L_law_632 {d : Nat} {L : am_L} {S : List Value} {h : am_H} {Q : Option Value → am_H → Prop} {x y : Int32} : AW d 0 632 L (.int y :: .int x :: S) h Q = AW d 0 633 L (.int (x + y) :: S) h Q := AW_n cdn_L_law rfl rfl
set_option maxRecDepth 20000 in
theorem st_L_law_633 {d : Nat} {L : am_L} {S : List Value} {Q : Option Value → am_H → Prop} {c : List (Nat × Nat)} {a : Nat → Nat → Int32} {r : Nat → Nat → Option Nat} {i : Int32} {k : Nat} (ht : am_tag c k = 20) (hi : inb i (am_len c k)) : AW d 0 633 L (.int i :: .ref k :: S) (c, a, r) Q = AW d 0 634 L (.int (a k i.toNatClampNeg) :: S) (c, a, r) Q := AW_ald cdn_L_law rfl (by decide) ht hi
set_option maxRecDepth 20000 in
theorem st_L_law_634 {d : Nat} {L : am_L} {S : List Value} {Q : Option Value → am_H → Prop} {c : List (Nat × Nat)} {a : Nat → Nat → Int32} {r : Nat → Nat → Option Nat} {k : Nat} {x1 : Int32} {x2 : Int32} (ht : am_tag c k = 10) (hS : (S.map fun v => v.category).sum ≤ 8) : AW (d + 1) 0 634 L (.int x2 :: .int x1 :: .ref k :: S) (c, a, r) Q = CALL d 146 [.ref k, .int x1, .int x2] (c, a, r) (fun v h9 => AW (d + 1) 0 637 L (v.toList ++ S) h9 Q) := AW_invV (n := 2) (t := [.int x2, .int x1]) cdn_L_law rfl (by decide) (Nat.le_of_ble_eq_true rfl) rfl rfl ht hS
set_option maxRecDepth 20000 in
theorem st_L_law_637 {d : Nat} {L : am_L} {S : List Value} {h : am_H} {Q : Option Value → am_H → Prop} {x y : Int32} : AW d 0 637 L (.int y :: .int x :: S) h Q = if x = y then AW d 0 1579 L S h Q else AW d 0 640 L S h Q := AW_if cdn_L_law rfl rfl
set_option maxRecDepth 20000 in
theorem st_L_law_640 {d : Nat} {L : am_L} {S : List Value} {h : am_H} {Q : Option Value → am_H → Prop} : AW d 0 640 L S h Q = AW d 0 641 L (.int 0 :: S) h Q := AW_n cdn_L_law rfl rfl
set_option maxRecDepth 20000 in
theorem st_L_law_641 {d : Nat} {L : am_L} {h : am_H} {Q : Option Value → am_H → Prop} {x : Int32} (hx : x = 0 ∨ x = 1) : AW d 0 641 L [.int x] h Q = Q (some (.int x)) h := AW_zret cdn_L_law rfl hx
set_option maxRecDepth 20000 in
theorem st_L_law_642 {d : Nat} {S : List Value} {h : am_H} {Q : Option Value → am_H → Prop} {l0 l2 l3 : Option Value} {x : Nat} : AW d 0 642 [l0, some (.ref x), l2, l3] S h Q = AW d 0 643 [l0, some (.ref x), l2, l3] (.ref x :: S) h Q := AW_n cdn_L_law rfl rfl
set_option maxRecDepth 20000 in
theorem st_L_law_643 {d : Nat} {S : List Value} {h : am_H} {Q : Option Value → am_H → Prop} {l1 l2 l3 : Option Value} {x : Nat} : AW d 0 643 [some (.ref x), l1, l2, l3] S h Q = AW d 0 644 [some (.ref x), l1, l2, l3] (.ref x :: S) h Q := AW_n cdn_L_law rfl rfl
set_option maxRecDepth 20000 in
theorem st_L_law_644 {d : Nat} {S : List Value} {h : am_H} {Q : Option Value → am_H → Prop} {l0 l1 l2 : Option Value} {x : Int32} : AW d 0 644 [l0, l1, l2, some (.int x)] S h Q = AW d 0 645 [l0, l1, l2, some (.int x)] (.int x :: S) h Q := AW_n cdn_L_law rfl rfl
set_option maxRecDepth 20000 in
theorem st_L_law_645 {d : Nat} {L : am_L} {S : List Value} {h : am_H} {Q : Option Value → am_H → Prop} : AW d 0 645 L S h Q = AW d 0 646 L (.int 1 :: S) h Q := AW_n cdn_L_law rfl rfl
set_option maxRecDepth 20000 in
theorem st_L_law_646 {d : Nat} {L : am_L} {S : List Value} {h : am_H} {Q : Option Value → am_H → Prop} {x y : Int32} : AW d 0 646 L (.int y :: .int x :: S) h Q = AW d 0 647 L (.int (x + y) :: S) h Q := AW_n cdn_L_law rfl rfl
set_option maxRecDepth 20000 in
theorem st_L_law_647 {d : Nat} {L : am_L} {S : List Value} {Q : Option Value → am_H → Prop} {c : List (Nat × Nat)} {a : Nat → Nat → Int32} {r : Nat → Nat → Option Nat} {i : Int32} {k : Nat} (ht : am_tag c k = 20) (hi : inb i (am_len c k)) : AW d 0 647 L (.int i :: .ref k :: S) (c, a, r) Q = AW d 0 648 L (.int (a k i.toNatClampNeg) :: S) (c, a, r) Q := AW_ald cdn_L_law rfl (by decide) ht hi
set_option maxRecDepth 20000 in
theorem st_L_law_648 {d : Nat} {S : List Value} {h : am_H} {Q : Option Value → am_H → Prop} {l1 l2 l3 : Option Value} {x : Nat} : AW d 0 648 [some (.ref x), l1, l2, l3] S h Q = AW d 0 649 [some (.ref x), l1, l2, l3] (.ref x :: S) h Q := AW_n cdn_L_law rfl rfl
set_option maxRecDepth 20000 in
theorem st_L_law_649 {d : Nat} {S : List Value} {h : am_H} {Q : Option Value → am_H → Prop} {l0 l1 l2 : Option Value} {x : Int32} : AW d 0 649 [l0, l1, l2, some (.int x)] S h Q = AW d 0 650 [l0, l1, l2, some (.int x)] (.int x :: S) h Q := AW_n cdn_L_law rfl rfl
set_option maxRecDepth 20000 in
theorem st_L_law_650 {d : Nat} {L : am_L} {S : List Value} {h : am_H} {Q : Option Value → am_H → Prop} : AW d 0 650 L S h Q = AW d 0 651 L (.int 2 :: S) h Q := AW_n cdn_L_law rfl rfl
set_option maxRecDepth 20000 in
theorem st_L_law_651 {d : Nat} {L : am_L} {S : List Value} {h : am_H} {Q : Option Value → am_H → Prop} {x y : Int32} : AW d 0 651 L (.int y :: .int x :: S) h Q = AW d 0 652 L (.int (x + y) :: S) h Q := AW_n cdn_L_law rfl rfl
set_option maxRecDepth 20000 in
theorem st_L_law_652 {d : Nat} {L : am_L} {S : List Value} {Q : Option Value → am_H → Prop} {c : List (Nat × Nat)} {a : Nat → Nat → Int32} {r : Nat → Nat → Option Nat} {i : Int32} {k : Nat} (ht : am_tag c k = 20) (hi : inb i (am_len c k)) : AW d 0 652 L (.int i :: .ref k :: S) (c, a, r) Q = AW d 0 653 L (.int (a k i.toNatClampNeg) :: S) (c, a, r) Q := AW_ald cdn_L_law rfl (by decide) ht hi
set_option maxRecDepth 20000 in
theorem st_L_law_653 {d : Nat} {S : List Value} {h : am_H} {Q : Option Value → am_H → Prop} {l1 l2 l3 : Option Value} {x : Nat} : AW d 0 653 [some (.ref x), l1, l2, l3] S h Q = AW d 0 654 [some (.ref x), l1, l2, l3] (.ref x :: S) h Q := AW_n cdn_L_law rfl rfl
set_option maxRecDepth 20000 in
theorem st_L_law_654 {d : Nat} {S : List Value} {h : am_H} {Q : Option Value → am_H → Prop} {l0 l1 l2 : Option Value} {x : Int32} : AW d 0 654 [l0, l1, l2, some (.int x)] S h Q = AW d 0 655 [l0, l1, l2, some (.int x)] (.int x :: S) h Q := AW_n cdn_L_law rfl rfl
set_option maxRecDepth 20000 in
theorem st_L_law_655 {d : Nat} {L : am_L} {S : List Value} {h : am_H} {Q : Option Value → am_H → Prop} : AW d 0 655 L S h Q = AW d 0 656 L (.int 3 :: S) h Q := AW_n cdn_L_law rfl rfl
set_option maxRecDepth 20000 in
theorem st_L_law_656 {d : Nat} {L : am_L} {S : List Value} {h : am_H} {Q : Option Value → am_H → Prop} {x y : Int32} : AW d 0 656 L (.int y :: .int x :: S) h Q = AW d 0 657 L (.int (x + y) :: S) h Q := AW_n cdn_L_law rfl rfl
set_option maxRecDepth 20000 in
theorem st_L_law_657 {d : Nat} {L : am_L} {S : List Value} {Q : Option Value → am_H → Prop} {c : List (Nat × Nat)} {a : Nat → Nat → Int32} {r : Nat → Nat → Option Nat} {i : Int32} {k : Nat} (ht : am_tag c k = 20) (hi : inb i (am_len c k)) : AW d 0 657 L (.int i :: .ref k :: S) (c, a, r) Q = AW d 0 658 L (.int (a k i.toNatClampNeg) :: S) (c, a, r) Q := AW_ald cdn_L_law rfl (by decide) ht hi
set_option maxRecDepth 20000 in
theorem st_L_law_658 {d : Nat} {L : am_L} {S : List Value} {Q : Option Value → am_H → Prop} {c : List (Nat × Nat)} {a : Nat → Nat → Int32} {r : Nat → Nat → Option Nat} {k : Nat} {x1 : Int32} {x2 : Int32} {x3 : Int32} (ht : am_tag c k = 9) (hS : (S.map fun v => v.category).sum ≤ 8) : AW (d + 1) 0 658 L (.int x3 :: .int x2 :: .int x1 :: .ref k :: S) (c, a, r) Q = CALL d 82 [.ref k, .int x1, .int x2, .int x3] (c, a, r) (fun v h9 => AW (d + 1) 0 661 L (v.toList ++ S) h9 Q) := AW_invV (n := 3) (t := [.int x3, .int x2, .int x1]) cdn_L_law rfl (by decide) (Nat.le_of_ble_eq_true rfl) rfl rfl ht hS
set_option maxRecDepth 20000 in
theorem st_L_law_661 {d : Nat} {S : List Value} {h : am_H} {Q : Option Value → am_H → Prop} {l0 l1 l3 : Option Value} {x : Nat} : AW d 0 661 [l0, l1, some (.ref x), l3] S h Q = AW d 0 662 [l0, l1, some (.ref x), l3] (.ref x :: S) h Q := AW_n cdn_L_law rfl rfl
set_option maxRecDepth 20000 in
theorem st_L_law_662 {d : Nat} {S : List Value} {h : am_H} {Q : Option Value → am_H → Prop} {l1 l2 l3 : Option Value} {x : Nat} : AW d 0 662 [some (.ref x), l1, l2, l3] S h Q = AW d 0 663 [some (.ref x), l1, l2, l3] (.ref x :: S) h Q := AW_n cdn_L_law rfl rfl
set_option maxRecDepth 20000 in
theorem st_L_law_663 {d : Nat} {S : List Value} {h : am_H} {Q : Option Value → am_H → Prop} {l0 l1 l2 : Option Value} {x : Int32} : AW d 0 663 [l0, l1, l2, some (.int x)] S h Q = AW d 0 664 [l0, l1, l2, some (.int x)] (.int x :: S) h Q := AW_n cdn_L_law rfl rfl
set_option maxRecDepth 20000 in
theorem st_L_law_664 {d : Nat} {L : am_L} {S : List Value} {h : am_H} {Q : Option Value → am_H → Prop} : AW d 0 664 L S h Q = AW d 0 665 L (.int 1 :: S) h Q := AW_n cdn_L_law rfl rfl
set_option maxRecDepth 20000 in
theorem st_L_law_665 {d : Nat} {L : am_L} {S : List Value} {h : am_H} {Q : Option Value → am_H → Prop} {x y : Int32} : AW d 0 665 L (.int y :: .int x :: S) h Q = AW d 0 666 L (.int (x + y) :: S) h Q := AW_n cdn_L_law rfl rfl
set_option maxRecDepth 20000 in
theorem st_L_law_666 {d : Nat} {L : am_L} {S : List Value} {Q : Option Value → am_H → Prop} {c : List (Nat × Nat)} {a : Nat → Nat → Int32} {r : Nat → Nat → Option Nat} {i : Int32} {k : Nat} (ht : am_tag c k = 20) (hi : inb i (am_len c k)) : AW d 0 666 L (.int i :: .ref k :: S) (c, a, r) Q = AW d 0 667 L (.int (a k i.toNatClampNeg) :: S) (c, a, r) Q := AW_ald cdn_L_law rfl (by decide) ht hi
set_option maxRecDepth 20000 in
theorem st_L_law_667 {d : Nat} {S : List Value} {h : am_H} {Q : Option Value → am_H → Prop} {l1 l2 l3 : Option Value} {x : Nat} : AW d 0 667 [some (.ref x), l1, l2, l3] S h Q = AW d 0 668 [some (.ref x), l1, l2, l3] (.ref x :: S) h Q := AW_n cdn_L_law rfl rfl
set_option maxRecDepth 20000 in
theorem st_L_law_668 {d : Nat} {S : List Value} {h : am_H} {Q : Option Value → am_H → Prop} {l0 l1 l2 : Option Value} {x : Int32} : AW d 0 668 [l0, l1, l2, some (.int x)] S h Q = AW d 0 669 [l0, l1, l2, some (.int x)] (.int x :: S) h Q := AW_n cdn_L_law rfl rfl
set_option maxRecDepth 20000 in
theorem st_L_law_669 {d : Nat} {L : am_L} {S : List Value} {h : am_H} {Q : Option Value → am_H → Prop} : AW d 0 669 L S h Q = AW d 0 670 L (.int 2 :: S) h Q := AW_n cdn_L_law rfl rfl
set_option maxRecDepth 20000 in
theorem st_L_law_670 {d : Nat} {L : am_L} {S : List Value} {h : am_H} {Q : Option Value → am_H → Prop} {x y : Int32} : AW d 0 670 L (.int y :: .int x :: S) h Q = AW d 0 671 L (.int (x + y) :: S) h Q := AW_n cdn_L_law rfl rfl
set_option maxRecDepth 20000 in
theorem st_L_law_671 {d : Nat} {L : am_L} {S : List Value} {Q : Option Value → am_H → Prop} {c : List (Nat × Nat)} {a : Nat → Nat → Int32} {r : Nat → Nat → Option Nat} {i : Int32} {k : Nat} (ht : am_tag c k = 20) (hi : inb i (am_len c k)) : AW d 0 671 L (.int i :: .ref k :: S) (c, a, r) Q = AW d 0 672 L (.int (a k i.toNatClampNeg) :: S) (c, a, r) Q := AW_ald cdn_L_law rfl (by decide) ht hi
set_option maxRecDepth 20000 in
theorem st_L_law_672 {d : Nat} {S : List Value} {h : am_H} {Q : Option Value → am_H → Prop} {l1 l2 l3 : Option Value} {x : Nat} : AW d 0 672 [some (.ref x), l1, l2, l3] S h Q = AW d 0 673 [some (.ref x), l1, l2, l3] (.ref x :: S) h Q := AW_n cdn_L_law rfl rfl
set_option maxRecDepth 20000 in
theorem st_L_law_673 {d : Nat} {S : List Value} {h : am_H} {Q : Option Value → am_H → Prop} {l0 l1 l2 : Option Value} {x : Int32} : AW d 0 673 [l0, l1, l2, some (.int x)] S h Q = AW d 0 674 [l0, l1, l2, some (.int x)] (.int x :: S) h Q := AW_n cdn_L_law rfl rfl
set_option maxRecDepth 20000 in
theorem st_L_law_674 {d : Nat} {L : am_L} {S : List Value} {h : am_H} {Q : Option Value → am_H → Prop} : AW d 0 674 L S h Q = AW d 0 675 L (.int 3 :: S) h Q := AW_n cdn_L_law rfl rfl
set_option maxRecDepth 20000 in
theorem st_L_law_675 {d : Nat} {L : am_L} {S : List Value} {h : am_H} {Q : Option Value → am_H → Prop} {x y : Int32} : AW d 0 675 L (.int y :: .int x :: S) h Q = AW d 0 676 L (.int (x + y) :: S) h Q := AW_n cdn_L_law rfl rfl
set_option maxRecDepth 20000 in
theorem st_L_law_676 {d : Nat} {L : am_L} {S : List Value} {Q : Option Value → am_H → Prop} {c : List (Nat × Nat)} {a : Nat → Nat → Int32} {r : Nat → Nat → Option Nat} {i : Int32} {k : Nat} (ht : am_tag c k = 20) (hi : inb i (am_len c k)) : AW d 0 676 L (.int i :: .ref k :: S) (c, a, r) Q = AW d 0 677 L (.int (a k i.toNatClampNeg) :: S) (c, a, r) Q := AW_ald cdn_L_law rfl (by decide) ht hi
set_option maxRecDepth 20000 in
theorem st_L_law_677 {d : Nat} {L : am_L} {S : List Value} {Q : Option Value → am_H → Prop} {c : List (Nat × Nat)} {a : Nat → Nat → Int32} {r : Nat → Nat → Option Nat} {k : Nat} {x1 : Int32} {x2 : Int32} {x3 : Int32} (ht : am_tag c k = 10) (hS : (S.map fun v => v.category).sum ≤ 8) : AW (d + 1) 0 677 L (.int x3 :: .int x2 :: .int x1 :: .ref k :: S) (c, a, r) Q = CALL d 147 [.ref k, .int x1, .int x2, .int x3] (c, a, r) (fun v h9 => AW (d + 1) 0 680 L (v.toList ++ S) h9 Q) := AW_invV (n := 3) (t := [.int x3, .int x2, .int x1]) cdn_L_law rfl (by decide) (Nat.le_of_ble_eq_true rfl) rfl rfl ht hS
set_option maxRecDepth 20000 in
theorem st_L_law_680 {d : Nat} {L : am_L} {S : List Value} {h : am_H} {Q : Option Value → am_H → Prop} {x y : Int32} : AW d 0 680 L (.int y :: .int x :: S) h Q = if x = y then AW d 0 1579 L S h Q else AW d 0 683 L S h Q := AW_if cdn_L_law rfl rfl
set_option maxRecDepth 20000 in
theorem st_L_law_683 {d : Nat} {L : am_L} {S : List Value} {h : am_H} {Q : Option Value → am_H → Prop} : AW d 0 683 L S h Q = AW d 0 684 L (.int 0 :: S) h Q := AW_n cdn_L_law rfl rfl
set_option maxRecDepth 20000 in
theorem st_L_law_684 {d : Nat} {L : am_L} {h : am_H} {Q : Option Value → am_H → Prop} {x : Int32} (hx : x = 0 ∨ x = 1) : AW d 0 684 L [.int x] h Q = Q (some (.int x)) h := AW_zret cdn_L_law rfl hx
set_option maxRecDepth 20000 in
theorem st_L_law_685 {d : Nat} {S : List Value} {h : am_H} {Q : Option Value → am_H → Prop} {l0 l2 l3 : Option Value} {x : Nat} : AW d 0 685 [l0, some (.ref x), l2, l3] S h Q = AW d 0 686 [l0, some (.ref x), l2, l3] (.ref x :: S) h Q := AW_n cdn_L_law rfl rfl
set_option maxRecDepth 20000 in
theorem st_L_law_686 {d : Nat} {S : List Value} {h : am_H} {Q : Option Value → am_H → Prop} {l1 l2 l3 : Option Value} {x : Nat} : AW d 0 686 [some (.ref x), l1, l2, l3] S h Q = AW d 0 687 [some (.ref x), l1, l2, l3] (.ref x :: S) h Q := AW_n cdn_L_law rfl rfl
set_option maxRecDepth 20000 in
theorem st_L_law_687 {d : Nat} {S : List Value} {h : am_H} {Q : Option Value → am_H → Prop} {l0 l1 l2 : Option Value} {x : Int32} : AW d 0 687 [l0, l1, l2, some (.int x)] S h Q = AW d 0 688 [l0, l1, l2, some (.int x)] (.int x :: S) h Q := AW_n cdn_L_law rfl rfl
set_option maxRecDepth 20000 in
theorem st_L_law_688 {d : Nat} {L : am_L} {S : List Value} {h : am_H} {Q : Option Value → am_H → Prop} : AW d 0 688 L S h Q = AW d 0 689 L (.int 1 :: S) h Q := AW_n cdn_L_law rfl rfl
set_option maxRecDepth 20000 in
theorem st_L_law_689 {d : Nat} {L : am_L} {S : List Value} {h : am_H} {Q : Option Value → am_H → Prop} {x y : Int32} : AW d 0 689 L (.int y :: .int x :: S) h Q = AW d 0 690 L (.int (x + y) :: S) h Q := AW_n cdn_L_law rfl rfl
set_option maxRecDepth 20000 in
theorem st_L_law_690 {d : Nat} {L : am_L} {S : List Value} {Q : Option Value → am_H → Prop} {c : List (Nat × Nat)} {a : Nat → Nat → Int32} {r : Nat → Nat → Option Nat} {i : Int32} {k : Nat} (ht : am_tag c k = 20) (hi : inb i (am_len c k)) : AW d 0 690 L (.int i :: .ref k :: S) (c, a, r) Q = AW d 0 691 L (.int (a k i.toNatClampNeg) :: S) (c, a, r) Q := AW_ald cdn_L_law rfl (by decide) ht hi
set_option maxRecDepth 20000 in
theorem st_L_law_691 {d : Nat} {L : am_L} {S : List Value} {Q : Option Value → am_H → Prop} {c : List (Nat × Nat)} {a : Nat → Nat → Int32} {r : Nat → Nat → Option Nat} {k : Nat} {x1 : Int32} (ht : am_tag c k = 9) (hS : (S.map fun v => v.category).sum ≤ 8) : AW (d + 1) 0 691 L (.int x1 :: .ref k :: S) (c, a, r) Q = CALL d 83 [.ref k, .int x1] (c, a, r) (fun v h9 => AW (d + 1) 0 694 L (v.toList ++ S) h9 Q) := AW_invV (n := 1) (t := [.int x1]) cdn_L_law rfl (by decide) (Nat.le_of_ble_eq_true rfl) rfl rfl ht hS
set_option maxRecDepth 20000 in
theorem st_L_law_694 {d : Nat} {S : List Value} {h : am_H} {Q : Option Value → am_H → Prop} {l0 l1 l3 : Option Value} {x : Nat} : AW d 0 694 [l0, l1, some (.ref x), l3] S h Q = AW d 0 695 [l0, l1, some (.ref x), l3] (.ref x :: S) h Q := AW_n cdn_L_law rfl rfl
set_option maxRecDepth 20000 in
theorem st_L_law_695 {d : Nat} {S : List Value} {h : am_H} {Q : Option Value → am_H → Prop} {l1 l2 l3 : Option Value} {x : Nat} : AW d 0 695 [some (.ref x), l1, l2, l3] S h Q = AW d 0 696 [some (.ref x), l1, l2, l3] (.ref x :: S) h Q := AW_n cdn_L_law rfl rfl
set_option maxRecDepth 20000 in
theorem st_L_law_696 {d : Nat} {S : List Value} {h : am_H} {Q : Option Value → am_H → Prop} {l0 l1 l2 : Option Value} {x : Int32} : AW d 0 696 [l0, l1, l2, some (.int x)] S h Q = AW d 0 697 [l0, l1, l2, some (.int x)] (.int x :: S) h Q := AW_n cdn_L_law rfl rfl
set_option maxRecDepth 20000 in
theorem st_L_law_697 {d : Nat} {L : am_L} {S : List Value} {h : am_H} {Q : Option Value → am_H → Prop} : AW d 0 697 L S h Q = AW d 0 698 L (.int 1 :: S) h Q := AW_n cdn_L_law rfl rfl
set_option maxRecDepth 20000 in
theorem st_L_law_698 {d : Nat} {L : am_L} {S : List Value} {h : am_H} {Q : Option Value → am_H → Prop} {x y : Int32} : AW d 0 698 L (.int y :: .int x :: S) h Q = AW d 0 699 L (.int (x + y) :: S) h Q := AW_n cdn_L_law rfl rfl
set_option maxRecDepth 20000 in
theorem st_L_law_699 {d : Nat} {L : am_L} {S : List Value} {Q : Option Value → am_H → Prop} {c : List (Nat × Nat)} {a : Nat → Nat → Int32} {r : Nat → Nat → Option Nat} {i : Int32} {k : Nat} (ht : am_tag c k = 20) (hi : inb i (am_len c k)) : AW d 0 699 L (.int i :: .ref k :: S) (c, a, r) Q = AW d 0 700 L (.int (a k i.toNatClampNeg) :: S) (c, a, r) Q := AW_ald cdn_L_law rfl (by decide) ht hi
set_option maxRecDepth 20000 in
theorem st_L_law_700 {d : Nat} {L : am_L} {S : List Value} {Q : Option Value → am_H → Prop} {c : List (Nat × Nat)} {a : Nat → Nat → Int32} {r : Nat → Nat → Option Nat} {k : Nat} {x1 : Int32} (ht : am_tag c k = 10) (hS : (S.map fun v => v.category).sum ≤ 8) : AW (d + 1) 0 700 L (.int x1 :: .ref k :: S) (c, a, r) Q = CALL d 148 [.ref k, .int x1] (c, a, r) (fun v h9 => AW (d + 1) 0 703 L (v.toList ++ S) h9 Q) := AW_invV (n := 1) (t := [.int x1]) cdn_L_law rfl (by decide) (Nat.le_of_ble_eq_true rfl) rfl rfl ht hS
set_option maxRecDepth 20000 in
theorem st_L_law_703 {d : Nat} {L : am_L} {S : List Value} {h : am_H} {Q : Option Value → am_H → Prop} {x y : Int32} : AW d 0 703 L (.int y :: .int x :: S) h Q = if x = y then AW d 0 1579 L S h Q else AW d 0 706 L S h Q := AW_if cdn_L_law rfl rfl
set_option maxRecDepth 20000 in
theorem st_L_law_706 {d : Nat} {L : am_L} {S : List Value} {h : am_H} {Q : Option Value → am_H → Prop} : AW d 0 706 L S h Q = AW d 0 707 L (.int 0 :: S) h Q := AW_n cdn_L_law rfl rfl
set_option maxRecDepth 20000 in
theorem st_L_law_707 {d : Nat} {L : am_L} {h : am_H} {Q : Option Value → am_H → Prop} {x : Int32} (hx : x = 0 ∨ x = 1) : AW d 0 707 L [.int x] h Q = Q (some (.int x)) h := AW_zret cdn_L_law rfl hx
set_option maxRecDepth 20000 in
theorem st_L_law_708 {d : Nat} {S : List Value} {h : am_H} {Q : Option Value → am_H → Prop} {l0 l2 l3 : Option Value} {x : Nat} : AW d 0 708 [l0, some (.ref x), l2, l3] S h Q = AW d 0 709 [l0, some (.ref x), l2, l3] (.ref x :: S) h Q := AW_n cdn_L_law rfl rfl
set_option maxRecDepth 20000 in
theorem st_L_law_709 {d : Nat} {S : List Value} {h : am_H} {Q : Option Value → am_H → Prop} {l1 l2 l3 : Option Value} {x : Nat} : AW d 0 709 [some (.ref x), l1, l2, l3] S h Q = AW d 0 710 [some (.ref x), l1, l2, l3] (.ref x :: S) h Q := AW_n cdn_L_law rfl rfl
set_option maxRecDepth 20000 in
theorem st_L_law_710 {d : Nat} {S : List Value} {h : am_H} {Q : Option Value → am_H → Prop} {l0 l1 l2 : Option Value} {x : Int32} : AW d 0 710 [l0, l1, l2, some (.int x)] S h Q = AW d 0 711 [l0, l1, l2, some (.int x)] (.int x :: S) h Q := AW_n cdn_L_law rfl rfl
set_option maxRecDepth 20000 in
theorem st_L_law_711 {d : Nat} {L : am_L} {S : List Value} {h : am_H} {Q : Option Value → am_H → Prop} : AW d 0 711 L S h Q = AW d 0 712 L (.int 1 :: S) h Q := AW_n cdn_L_law rfl rfl
set_option maxRecDepth 20000 in
theorem st_L_law_712 {d : Nat} {L : am_L} {S : List Value} {h : am_H} {Q : Option Value → am_H → Prop} {x y : Int32} : AW d 0 712 L (.int y :: .int x :: S) h Q = AW d 0 713 L (.int (x + y) :: S) h Q := AW_n cdn_L_law rfl rfl
set_option maxRecDepth 20000 in
theorem st_L_law_713 {d : Nat} {L : am_L} {S : List Value} {Q : Option Value → am_H → Prop} {c : List (Nat × Nat)} {a : Nat → Nat → Int32} {r : Nat → Nat → Option Nat} {i : Int32} {k : Nat} (ht : am_tag c k = 20) (hi : inb i (am_len c k)) : AW d 0 713 L (.int i :: .ref k :: S) (c, a, r) Q = AW d 0 714 L (.int (a k i.toNatClampNeg) :: S) (c, a, r) Q := AW_ald cdn_L_law rfl (by decide) ht hi
set_option maxRecDepth 20000 in
theorem st_L_law_714 {d : Nat} {L : am_L} {S : List Value} {Q : Option Value → am_H → Prop} {c : List (Nat × Nat)} {a : Nat → Nat → Int32} {r : Nat → Nat → Option Nat} {k : Nat} {x1 : Int32} (ht : am_tag c k = 9) (hS : (S.map fun v => v.category).sum ≤ 8) : AW (d + 1) 0 714 L (.int x1 :: .ref k :: S) (c, a, r) Q = CALL d 84 [.ref k, .int x1] (c, a, r) (fun v h9 => AW (d + 1) 0 717 L (v.toList ++ S) h9 Q) := AW_invV (n := 1) (t := [.int x1]) cdn_L_law rfl (by decide) (Nat.le_of_ble_eq_true rfl) rfl rfl ht hS
set_option maxRecDepth 20000 in
theorem st_L_law_717 {d : Nat} {S : List Value} {h : am_H} {Q : Option Value → am_H → Prop} {l0 l1 l3 : Option Value} {x : Nat} : AW d 0 717 [l0, l1, some (.ref x), l3] S h Q = AW d 0 718 [l0, l1, some (.ref x), l3] (.ref x :: S) h Q := AW_n cdn_L_law rfl rfl
set_option maxRecDepth 20000 in
theorem st_L_law_718 {d : Nat} {S : List Value} {h : am_H} {Q : Option Value → am_H → Prop} {l1 l2 l3 : Option Value} {x : Nat} : AW d 0 718 [some (.ref x), l1, l2, l3] S h Q = AW d 0 719 [some (.ref x), l1, l2, l3] (.ref x :: S) h Q := AW_n cdn_L_law rfl rfl
set_option maxRecDepth 20000 in
theorem st_L_law_719 {d : Nat} {S : List Value} {h : am_H} {Q : Option Value → am_H → Prop} {l0 l1 l2 : Option Value} {x : Int32} : AW d 0 719 [l0, l1, l2, some (.int x)] S h Q = AW d 0 720 [l0, l1, l2, some (.int x)] (.int x :: S) h Q := AW_n cdn_L_law rfl rfl
set_option maxRecDepth 20000 in
theorem st_L_law_720 {d : Nat} {L : am_L} {S : List Value} {h : am_H} {Q : Option Value → am_H → Prop} : AW d 0 720 L S h Q = AW d 0 721 L (.int 1 :: S) h Q := AW_n cdn_L_law rfl rfl
set_option maxRecDepth 20000 in
theorem st_L_law_721 {d : Nat} {L : am_L} {S : List Value} {h : am_H} {Q : Option Value → am_H → Prop} {x y : Int32} : AW d 0 721 L (.int y :: .int x :: S) h Q = AW d 0 722 L (.int (x + y) :: S) h Q := AW_n cdn_L_law rfl rfl
set_option maxRecDepth 20000 in
theorem st_L_law_722 {d : Nat} {L : am_L} {S : List Value} {Q : Option Value → am_H → Prop} {c : List (Nat × Nat)} {a : Nat → Nat → Int32} {r : Nat → Nat → Option Nat} {i : Int32} {k : Nat} (ht : am_tag c k = 20) (hi : inb i (am_len c k)) : AW d 0 722 L (.int i :: .ref k :: S) (c, a, r) Q = AW d 0 723 L (.int (a k i.toNatClampNeg) :: S) (c, a, r) Q := AW_ald cdn_L_law rfl (by decide) ht hi
set_option maxRecDepth 20000 in
theorem st_L_law_723 {d : Nat} {L : am_L} {S : List Value} {Q : Option Value → am_H → Prop} {c : List (Nat × Nat)} {a : Nat → Nat → Int32} {r : Nat → Nat → Option Nat} {k : Nat} {x1 : Int32} (ht : am_tag c k = 10) (hS : (S.map fun v => v.category).sum ≤ 8) : AW (d + 1) 0 723 L (.int x1 :: .ref k :: S) (c, a, r) Q = CALL d 153 [.ref k, .int x1] (c, a, r) (fun v h9 => AW (d + 1) 0 726 L (v.toList ++ S) h9 Q) := AW_invV (n := 1) (t := [.int x1]) cdn_L_law rfl (by decide) (Nat.le_of_ble_eq_true rfl) rfl rfl ht hS
set_option maxRecDepth 20000 in
theorem st_L_law_726 {d : Nat} {L : am_L} {S : List Value} {h : am_H} {Q : Option Value → am_H → Prop} {x y : Int32} : AW d 0 726 L (.int y :: .int x :: S) h Q = if x = y then AW d 0 1579 L S h Q else AW d 0 729 L S h Q := AW_if cdn_L_law rfl rfl
set_option maxRecDepth 20000 in
theorem st_L_law_729 {d : Nat} {L : am_L} {S : List Value} {h : am_H} {Q : Option Value → am_H → Prop} : AW d 0 729 L S h Q = AW d 0 730 L (.int 0 :: S) h Q := AW_n cdn_L_law rfl rfl
set_option maxRecDepth 20000 in
theorem st_L_law_730 {d : Nat} {L : am_L} {h : am_H} {Q : Option Value → am_H → Prop} {x : Int32} (hx : x = 0 ∨ x = 1) : AW d 0 730 L [.int x] h Q = Q (some (.int x)) h := AW_zret cdn_L_law rfl hx
set_option maxRecDepth 20000 in
theorem st_L_law_731 {d : Nat} {S : List Value} {h : am_H} {Q : Option Value → am_H → Prop} {l0 l2 l3 : Option Value} {x : Nat} : AW d 0 731 [l0, some (.ref x), l2, l3] S h Q = AW d 0 732 [l0, some (.ref x), l2, l3] (.ref x :: S) h Q := AW_n cdn_L_law rfl rfl
set_option maxRecDepth 20000 in
theorem st_L_law_732 {d : Nat} {S : List Value} {h : am_H} {Q : Option Value → am_H → Prop} {l1 l2 l3 : Option Value} {x : Nat} : AW d 0 732 [some (.ref x), l1, l2, l3] S h Q = AW d 0 733 [some (.ref x), l1, l2, l3] (.ref x :: S) h Q := AW_n cdn_L_law rfl rfl
set_option maxRecDepth 20000 in
theorem st_L_law_733 {d : Nat} {S : List Value} {h : am_H} {Q : Option Value → am_H → Prop} {l0 l1 l2 : Option Value} {x : Int32} : AW d 0 733 [l0, l1, l2, some (.int x)] S h Q = AW d 0 734 [l0, l1, l2, some (.int x)] (.int x :: S) h Q := AW_n cdn_L_law rfl rfl
set_option maxRecDepth 20000 in
theorem st_L_law_734 {d : Nat} {L : am_L} {S : List Value} {h : am_H} {Q : Option Value → am_H → Prop} : AW d 0 734 L S h Q = AW d 0 735 L (.int 1 :: S) h Q := AW_n cdn_L_law rfl rfl
set_option maxRecDepth 20000 in
theorem st_L_law_735 {d : Nat} {L : am_L} {S : List Value} {h : am_H} {Q : Option Value → am_H → Prop} {x y : Int32} : AW d 0 735 L (.int y :: .int x :: S) h Q = AW d 0 736 L (.int (x + y) :: S) h Q := AW_n cdn_L_law rfl rfl
set_option maxRecDepth 20000 in
theorem st_L_law_736 {d : Nat} {L : am_L} {S : List Value} {Q : Option Value → am_H → Prop} {c : List (Nat × Nat)} {a : Nat → Nat → Int32} {r : Nat → Nat → Option Nat} {i : Int32} {k : Nat} (ht : am_tag c k = 20) (hi : inb i (am_len c k)) : AW d 0 736 L (.int i :: .ref k :: S) (c, a, r) Q = AW d 0 737 L (.int (a k i.toNatClampNeg) :: S) (c, a, r) Q := AW_ald cdn_L_law rfl (by decide) ht hi
set_option maxRecDepth 20000 in
theorem st_L_law_737 {d : Nat} {S : List Value} {h : am_H} {Q : Option Value → am_H → Prop} {l1 l2 l3 : Option Value} {x : Nat} : AW d 0 737 [some (.ref x), l1, l2, l3] S h Q = AW d 0 738 [some (.ref x), l1, l2, l3] (.ref x :: S) h Q := AW_n cdn_L_law rfl rfl
set_option maxRecDepth 20000 in
theorem st_L_law_738 {d : Nat} {S : List Value} {h : am_H} {Q : Option Value → am_H → Prop} {l0 l1 l2 : Option Value} {x : Int32} : AW d 0 738 [l0, l1, l2, some (.int x)] S h Q = AW d 0 739 [l0, l1, l2, some (.int x)] (.int x :: S) h Q := AW_n cdn_L_law rfl rfl
set_option maxRecDepth 20000 in
theorem st_L_law_739 {d : Nat} {L : am_L} {S : List Value} {h : am_H} {Q : Option Value → am_H → Prop} : AW d 0 739 L S h Q = AW d 0 740 L (.int 2 :: S) h Q := AW_n cdn_L_law rfl rfl
set_option maxRecDepth 20000 in
theorem st_L_law_740 {d : Nat} {L : am_L} {S : List Value} {h : am_H} {Q : Option Value → am_H → Prop} {x y : Int32} : AW d 0 740 L (.int y :: .int x :: S) h Q = AW d 0 741 L (.int (x + y) :: S) h Q := AW_n cdn_L_law rfl rfl
set_option maxRecDepth 20000 in
theorem st_L_law_741 {d : Nat} {L : am_L} {S : List Value} {Q : Option Value → am_H → Prop} {c : List (Nat × Nat)} {a : Nat → Nat → Int32} {r : Nat → Nat → Option Nat} {i : Int32} {k : Nat} (ht : am_tag c k = 20) (hi : inb i (am_len c k)) : AW d 0 741 L (.int i :: .ref k :: S) (c, a, r) Q = AW d 0 742 L (.int (a k i.toNatClampNeg) :: S) (c, a, r) Q := AW_ald cdn_L_law rfl (by decide) ht hi
set_option maxRecDepth 20000 in
theorem st_L_law_742 {d : Nat} {L : am_L} {S : List Value} {Q : Option Value → am_H → Prop} {c : List (Nat × Nat)} {a : Nat → Nat → Int32} {r : Nat → Nat → Option Nat} {k : Nat} {x1 : Int32} {x2 : Int32} (ht : am_tag c k = 9) (hS : (S.map fun v => v.category).sum ≤ 8) : AW (d + 1) 0 742 L (.int x2 :: .int x1 :: .ref k :: S) (c, a, r) Q = CALL d 85 [.ref k, .int x1, .int x2] (c, a, r) (fun v h9 => AW (d + 1) 0 745 L (v.toList ++ S) h9 Q) := AW_invV (n := 2) (t := [.int x2, .int x1]) cdn_L_law rfl (by decide) (Nat.le_of_ble_eq_true rfl) rfl rfl ht hS
set_option maxRecDepth 20000 in
theorem st_L_law_745 {d : Nat} {S : List Value} {h : am_H} {Q : Option Value → am_H → Prop} {l0 l1 l3 : Option Value} {x : Nat} : AW d 0 745 [l0, l1, some (.ref x), l3] S h Q = AW d 0 746 [l0, l1, some (.ref x), l3] (.ref x :: S) h Q := AW_n cdn_L_law rfl rfl
set_option maxRecDepth 20000 in
theorem st_L_law_746 {d : Nat} {S : List Value} {h : am_H} {Q : Option Value → am_H → Prop} {l1 l2 l3 : Option Value} {x : Nat} : AW d 0 746 [some (.ref x), l1, l2, l3] S h Q = AW d 0 747 [some (.ref x), l1, l2, l3] (.ref x :: S) h Q := AW_n cdn_L_law rfl rfl
set_option maxRecDepth 20000 in
theorem st_L_law_747 {d : Nat} {S : List Value} {h : am_H} {Q : Option Value → am_H → Prop} {l0 l1 l2 : Option Value} {x : Int32} : AW d 0 747 [l0, l1, l2, some (.int x)] S h Q = AW d 0 748 [l0, l1, l2, some (.int x)] (.int x :: S) h Q := AW_n cdn_L_law rfl rfl
set_option maxRecDepth 20000 in
theorem st_L_law_748 {d : Nat} {L : am_L} {S : List Value} {h : am_H} {Q : Option Value → am_H → Prop} : AW d 0 748 L S h Q = AW d 0 749 L (.int 1 :: S) h Q := AW_n cdn_L_law rfl rfl
set_option maxRecDepth 20000 in
theorem st_L_law_749 {d : Nat} {L : am_L} {S : List Value} {h : am_H} {Q : Option Value → am_H → Prop} {x y : Int32} : AW d 0 749 L (.int y :: .int x :: S) h Q = AW d 0 750 L (.int (x + y) :: S) h Q := AW_n cdn_L_law rfl rfl
set_option maxRecDepth 20000 in
theorem st_L_law_750 {d : Nat} {L : am_L} {S : List Value} {Q : Option Value → am_H → Prop} {c : List (Nat × Nat)} {a : Nat → Nat → Int32} {r : Nat → Nat → Option Nat} {i : Int32} {k : Nat} (ht : am_tag c k = 20) (hi : inb i (am_len c k)) : AW d 0 750 L (.int i :: .ref k :: S) (c, a, r) Q = AW d 0 751 L (.int (a k i.toNatClampNeg) :: S) (c, a, r) Q := AW_ald cdn_L_law rfl (by decide) ht hi
set_option maxRecDepth 20000 in
theorem st_L_law_751 {d : Nat} {S : List Value} {h : am_H} {Q : Option Value → am_H → Prop} {l1 l2 l3 : Option Value} {x : Nat} : AW d 0 751 [some (.ref x), l1, l2, l3] S h Q = AW d 0 752 [some (.ref x), l1, l2, l3] (.ref x :: S) h Q := AW_n cdn_L_law rfl rfl
set_option maxRecDepth 20000 in
theorem st_L_law_752 {d : Nat} {S : List Value} {h : am_H} {Q : Option Value → am_H → Prop} {l0 l1 l2 : Option Value} {x : Int32} : AW d 0 752 [l0, l1, l2, some (.int x)] S h Q = AW d 0 753 [l0, l1, l2, some (.int x)] (.int x :: S) h Q := AW_n cdn_L_law rfl rfl
set_option maxRecDepth 20000 in
theorem st_L_law_753 {d : Nat} {L : am_L} {S : List Value} {h : am_H} {Q : Option Value → am_H → Prop} : AW d 0 753 L S h Q = AW d 0 754 L (.int 2 :: S) h Q := AW_n cdn_L_law rfl rfl
set_option maxRecDepth 20000 in
theorem st_L_law_754 {d : Nat} {L : am_L} {S : List Value} {h : am_H} {Q : Option Value → am_H → Prop} {x y : Int32} : AW d 0 754 L (.int y :: .int x :: S) h Q = AW d 0 755 L (.int (x + y) :: S) h Q := AW_n cdn_L_law rfl rfl
set_option maxRecDepth 20000 in
theorem st_L_law_755 {d : Nat} {L : am_L} {S : List Value} {Q : Option Value → am_H → Prop} {c : List (Nat × Nat)} {a : Nat → Nat → Int32} {r : Nat → Nat → Option Nat} {i : Int32} {k : Nat} (ht : am_tag c k = 20) (hi : inb i (am_len c k)) : AW d 0 755 L (.int i :: .ref k :: S) (c, a, r) Q = AW d 0 756 L (.int (a k i.toNatClampNeg) :: S) (c, a, r) Q := AW_ald cdn_L_law rfl (by decide) ht hi
set_option maxRecDepth 20000 in
theorem st_L_law_756 {d : Nat} {L : am_L} {S : List Value} {Q : Option Value → am_H → Prop} {c : List (Nat × Nat)} {a : Nat → Nat → Int32} {r : Nat → Nat → Option Nat} {k : Nat} {x1 : Int32} {x2 : Int32} (ht : am_tag c k = 10) (hS : (S.map fun v => v.category).sum ≤ 8) : AW (d + 1) 0 756 L (.int x2 :: .int x1 :: .ref k :: S) (c, a, r) Q = CALL d 155 [.ref k, .int x1, .int x2] (c, a, r) (fun v h9 => AW (d + 1) 0 759 L (v.toList ++ S) h9 Q) := AW_invV (n := 2) (t := [.int x2, .int x1]) cdn_L_law rfl (by decide) (Nat.le_of_ble_eq_true rfl) rfl rfl ht hS
set_option maxRecDepth 20000 in
theorem st_L_law_759 {d : Nat} {L : am_L} {S : List Value} {h : am_H} {Q : Option Value → am_H → Prop} {x y : Int32} : AW d 0 759 L (.int y :: .int x :: S) h Q = if x = y then AW d 0 1579 L S h Q else AW d 0 762 L S h Q := AW_if cdn_L_law rfl rfl
set_option maxRecDepth 20000 in
theorem st_L_law_762 {d : Nat} {L : am_L} {S : List Value} {h : am_H} {Q : Option Value → am_H → Prop} : AW d 0 762 L S h Q = AW d 0 763 L (.int 0 :: S) h Q := AW_n cdn_L_law rfl rfl
set_option maxRecDepth 20000 in
theorem st_L_law_763 {d : Nat} {L : am_L} {h : am_H} {Q : Option Value → am_H → Prop} {x : Int32} (hx : x = 0 ∨ x = 1) : AW d 0 763 L [.int x] h Q = Q (some (.int x)) h := AW_zret cdn_L_law rfl hx
set_option maxRecDepth 20000 in
theorem st_L_law_764 {d : Nat} {S : List Value} {h : am_H} {Q : Option Value → am_H → Prop} {l0 l2 l3 : Option Value} {x : Nat} : AW d 0 764 [l0, some (.ref x), l2, l3] S h Q = AW d 0 765 [l0, some (.ref x), l2, l3] (.ref x :: S) h Q := AW_n cdn_L_law rfl rfl
set_option maxRecDepth 20000 in
theorem st_L_law_765 {d : Nat} {S : List Value} {h : am_H} {Q : Option Value → am_H → Prop} {l1 l2 l3 : Option Value} {x : Nat} : AW d 0 765 [some (.ref x), l1, l2, l3] S h Q = AW d 0 766 [some (.ref x), l1, l2, l3] (.ref x :: S) h Q := AW_n cdn_L_law rfl rfl
set_option maxRecDepth 20000 in
theorem st_L_law_766 {d : Nat} {S : List Value} {h : am_H} {Q : Option Value → am_H → Prop} {l0 l1 l2 : Option Value} {x : Int32} : AW d 0 766 [l0, l1, l2, some (.int x)] S h Q = AW d 0 767 [l0, l1, l2, some (.int x)] (.int x :: S) h Q := AW_n cdn_L_law rfl rfl
set_option maxRecDepth 20000 in
theorem st_L_law_767 {d : Nat} {L : am_L} {S : List Value} {h : am_H} {Q : Option Value → am_H → Prop} : AW d 0 767 L S h Q = AW d 0 768 L (.int 1 :: S) h Q := AW_n cdn_L_law rfl rfl
set_option maxRecDepth 20000 in
theorem st_L_law_768 {d : Nat} {L : am_L} {S : List Value} {h : am_H} {Q : Option Value → am_H → Prop} {x y : Int32} : AW d 0 768 L (.int y :: .int x :: S) h Q = AW d 0 769 L (.int (x + y) :: S) h Q := AW_n cdn_L_law rfl rfl
set_option maxRecDepth 20000 in
theorem st_L_law_769 {d : Nat} {L : am_L} {S : List Value} {Q : Option Value → am_H → Prop} {c : List (Nat × Nat)} {a : Nat → Nat → Int32} {r : Nat → Nat → Option Nat} {i : Int32} {k : Nat} (ht : am_tag c k = 20) (hi : inb i (am_len c k)) : AW d 0 769 L (.int i :: .ref k :: S) (c, a, r) Q = AW d 0 770 L (.int (a k i.toNatClampNeg) :: S) (c, a, r) Q := AW_ald cdn_L_law rfl (by decide) ht hi
set_option maxRecDepth 20000 in
theorem st_L_law_770 {d : Nat} {L : am_L} {S : List Value} {Q : Option Value → am_H → Prop} {c : List (Nat × Nat)} {a : Nat → Nat → Int32} {r : Nat → Nat → Option Nat} {k : Nat} {x1 : Int32} (ht : am_tag c k = 9) (hS : (S.map fun v => v.category).sum ≤ 8) : AW (d + 1) 0 770 L (.int x1 :: .ref k :: S) (c, a, r) Q = CALL d 86 [.ref k, .int x1] (c, a, r) (fun v h9 => AW (d + 1) 0 773 L (v.toList ++ S) h9 Q) := AW_invV (n := 1) (t := [.int x1]) cdn_L_law rfl (by decide) (Nat.le_of_ble_eq_true rfl) rfl rfl ht hS
set_option maxRecDepth 20000 in
theorem st_L_law_773 {d : Nat} {S : List Value} {h : am_H} {Q : Option Value → am_H → Prop} {l0 l1 l3 : Option Value} {x : Nat} : AW d 0 773 [l0, l1, some (.ref x), l3] S h Q = AW d 0 774 [l0, l1, some (.ref x), l3] (.ref x :: S) h Q := AW_n cdn_L_law rfl rfl
set_option maxRecDepth 20000 in
theorem st_L_law_774 {d : Nat} {S : List Value} {h : am_H} {Q : Option Value → am_H → Prop} {l1 l2 l3 : Option Value} {x : Nat} : AW d 0 774 [some (.ref x), l1, l2, l3] S h Q = AW d 0 775 [some (.ref x), l1, l2, l3] (.ref x :: S) h Q := AW_n cdn_L_law rfl rfl
set_option maxRecDepth 20000 in
theorem st_L_law_775 {d : Nat} {S : List Value} {h : am_H} {Q : Option Value → am_H → Prop} {l0 l1 l2 : Option Value} {x : Int32} : AW d 0 775 [l0, l1, l2, some (.int x)] S h Q = AW d 0 776 [l0, l1, l2, some (.int x)] (.int x :: S) h Q := AW_n cdn_L_law rfl rfl
set_option maxRecDepth 20000 in
theorem st_L_law_776 {d : Nat} {L : am_L} {S : List Value} {h : am_H} {Q : Option Value → am_H → Prop} : AW d 0 776 L S h Q = AW d 0 777 L (.int 1 :: S) h Q := AW_n cdn_L_law rfl rfl
set_option maxRecDepth 20000 in
theorem st_L_law_777 {d : Nat} {L : am_L} {S : List Value} {h : am_H} {Q : Option Value → am_H → Prop} {x y : Int32} : AW d 0 777 L (.int y :: .int x :: S) h Q = AW d 0 778 L (.int (x + y) :: S) h Q := AW_n cdn_L_law rfl rfl
set_option maxRecDepth 20000 in
theorem st_L_law_778 {d : Nat} {L : am_L} {S : List Value} {Q : Option Value → am_H → Prop} {c : List (Nat × Nat)} {a : Nat → Nat → Int32} {r : Nat → Nat → Option Nat} {i : Int32} {k : Nat} (ht : am_tag c k = 20) (hi : inb i (am_len c k)) : AW d 0 778 L (.int i :: .ref k :: S) (c, a, r) Q = AW d 0 779 L (.int (a k i.toNatClampNeg) :: S) (c, a, r) Q := AW_ald cdn_L_law rfl (by decide) ht hi
set_option maxRecDepth 20000 in
theorem st_L_law_779 {d : Nat} {L : am_L} {S : List Value} {Q : Option Value → am_H → Prop} {c : List (Nat × Nat)} {a : Nat → Nat → Int32} {r : Nat → Nat → Option Nat} {k : Nat} {x1 : Int32} (ht : am_tag c k = 10) (hS : (S.map fun v => v.category).sum ≤ 8) : AW (d + 1) 0 779 L (.int x1 :: .ref k :: S) (c, a, r) Q = CALL d 157 [.ref k, .int x1] (c, a, r) (fun v h9 => AW (d + 1) 0 782 L (v.toList ++ S) h9 Q) := AW_invV (n := 1) (t := [.int x1]) cdn_L_law rfl (by decide) (Nat.le_of_ble_eq_true rfl) rfl rfl ht hS
set_option maxRecDepth 20000 in
theorem st_L_law_782 {d : Nat} {L : am_L} {S : List Value} {h : am_H} {Q : Option Value → am_H → Prop} {x y : Int32} : AW d 0 782 L (.int y :: .int x :: S) h Q = if x = y then AW d 0 1579 L S h Q else AW d 0 785 L S h Q := AW_if cdn_L_law rfl rfl
set_option maxRecDepth 20000 in
theorem st_L_law_785 {d : Nat} {L : am_L} {S : List Value} {h : am_H} {Q : Option Value → am_H → Prop} : AW d 0 785 L S h Q = AW d 0 786 L (.int 0 :: S) h Q := AW_n cdn_L_law rfl rfl
set_option maxRecDepth 20000 in
theorem st_L_law_786 {d : Nat} {L : am_L} {h : am_H} {Q : Option Value → am_H → Prop} {x : Int32} (hx : x = 0 ∨ x = 1) : AW d 0 786 L [.int x] h Q = Q (some (.int x)) h := AW_zret cdn_L_law rfl hx
set_option maxRecDepth 20000 in
theorem st_L_law_787 {d : Nat} {S : List Value} {h : am_H} {Q : Option Value → am_H → Prop} {l0 l2 l3 : Option Value} {x : Nat} : AW d 0 787 [l0, some (.ref x), l2, l3] S h Q = AW d 0 788 [l0, some (.ref x), l2, l3] (.ref x :: S) h Q := AW_n cdn_L_law rfl rfl
set_option maxRecDepth 20000 in
theorem st_L_law_788 {d : Nat} {S : List Value} {h : am_H} {Q : Option Value → am_H → Prop} {l1 l2 l3 : Option Value} {x : Nat} : AW d 0 788 [some (.ref x), l1, l2, l3] S h Q = AW d 0 789 [some (.ref x), l1, l2, l3] (.ref x :: S) h Q := AW_n cdn_L_law rfl rfl
set_option maxRecDepth 20000 in
theorem st_L_law_789 {d : Nat} {S : List Value} {h : am_H} {Q : Option Value → am_H → Prop} {l0 l1 l2 : Option Value} {x : Int32} : AW d 0 789 [l0, l1, l2, some (.int x)] S h Q = AW d 0 790 [l0, l1, l2, some (.int x)] (.int x :: S) h Q := AW_n cdn_L_law rfl rfl
set_option maxRecDepth 20000 in
theorem st_L_law_790 {d : Nat} {L : am_L} {S : List Value} {h : am_H} {Q : Option Value → am_H → Prop} : AW d 0 790 L S h Q = AW d 0 791 L (.int 1 :: S) h Q := AW_n cdn_L_law rfl rfl
set_option maxRecDepth 20000 in
theorem st_L_law_791 {d : Nat} {L : am_L} {S : List Value} {h : am_H} {Q : Option Value → am_H → Prop} {x y : Int32} : AW d 0 791 L (.int y :: .int x :: S) h Q = AW d 0 792 L (.int (x + y) :: S) h Q := AW_n cdn_L_law rfl rfl
set_option maxRecDepth 20000 in
theorem st_L_law_792 {d : Nat} {L : am_L} {S : List Value} {Q : Option Value → am_H → Prop} {c : List (Nat × Nat)} {a : Nat → Nat → Int32} {r : Nat → Nat → Option Nat} {i : Int32} {k : Nat} (ht : am_tag c k = 20) (hi : inb i (am_len c k)) : AW d 0 792 L (.int i :: .ref k :: S) (c, a, r) Q = AW d 0 793 L (.int (a k i.toNatClampNeg) :: S) (c, a, r) Q := AW_ald cdn_L_law rfl (by decide) ht hi
set_option maxRecDepth 20000 in
theorem st_L_law_793 {d : Nat} {S : List Value} {h : am_H} {Q : Option Value → am_H → Prop} {l1 l2 l3 : Option Value} {x : Nat} : AW d 0 793 [some (.ref x), l1, l2, l3] S h Q = AW d 0 794 [some (.ref x), l1, l2, l3] (.ref x :: S) h Q := AW_n cdn_L_law rfl rfl
set_option maxRecDepth 20000 in
theorem st_L_law_794 {d : Nat} {S : List Value} {h : am_H} {Q : Option Value → am_H → Prop} {l0 l1 l2 : Option Value} {x : Int32} : AW d 0 794 [l0, l1, l2, some (.int x)] S h Q = AW d 0 795 [l0, l1, l2, some (.int x)] (.int x :: S) h Q := AW_n cdn_L_law rfl rfl
set_option maxRecDepth 20000 in
theorem st_L_law_795 {d : Nat} {L : am_L} {S : List Value} {h : am_H} {Q : Option Value → am_H → Prop} : AW d 0 795 L S h Q = AW d 0 796 L (.int 2 :: S) h Q := AW_n cdn_L_law rfl rfl
set_option maxRecDepth 20000 in
theorem st_L_law_796 {d : Nat} {L : am_L} {S : List Value} {h : am_H} {Q : Option Value → am_H → Prop} {x y : Int32} : AW d 0 796 L (.int y :: .int x :: S) h Q = AW d 0 797 L (.int (x + y) :: S) h Q := AW_n cdn_L_law rfl rfl
set_option maxRecDepth 20000 in
theorem st_L_law_797 {d : Nat} {L : am_L} {S : List Value} {Q : Option Value → am_H → Prop} {c : List (Nat × Nat)} {a : Nat → Nat → Int32} {r : Nat → Nat → Option Nat} {i : Int32} {k : Nat} (ht : am_tag c k = 20) (hi : inb i (am_len c k)) : AW d 0 797 L (.int i :: .ref k :: S) (c, a, r) Q = AW d 0 798 L (.int (a k i.toNatClampNeg) :: S) (c, a, r) Q := AW_ald cdn_L_law rfl (by decide) ht hi
set_option maxRecDepth 20000 in
theorem st_L_law_798 {d : Nat} {L : am_L} {S : List Value} {Q : Option Value → am_H → Prop} {c : List (Nat × Nat)} {a : Nat → Nat → Int32} {r : Nat → Nat → Option Nat} {k : Nat} {x1 : Int32} {x2 : Int32} (ht : am_tag c k = 9) (hS : (S.map fun v => v.category).sum ≤ 8) : AW (d + 1) 0 798 L (.int x2 :: .int x1 :: .ref k :: S) (c, a, r) Q = CALL d 87 [.ref k, .int x1, .int x2] (c, a, r) (fun v h9 => AW (d + 1) 0 801 L (v.toList ++ S) h9 Q) := AW_invV (n := 2) (t := [.int x2, .int x1]) cdn_L_law rfl (by decide) (Nat.le_of_ble_eq_true rfl) rfl rfl ht hS
set_option maxRecDepth 20000 in
theorem st_L_law_801 {d : Nat} {S : List Value} {h : am_H} {Q : Option Value → am_H → Prop} {l0 l1 l3 : Option Value} {x : Nat} : AW d 0 801 [l0, l1, some (.ref x), l3] S h Q = AW d 0 802 [l0, l1, some (.ref x), l3] (.ref x :: S) h Q := AW_n cdn_L_law rfl rfl
set_option maxRecDepth 20000 in
theorem st_L_law_802 {d : Nat} {S : List Value} {h : am_H} {Q : Option Value → am_H → Prop} {l1 l2 l3 : Option Value} {x : Nat} : AW d 0 802 [some (.ref x), l1, l2, l3] S h Q = AW d 0 803 [some (.ref x), l1, l2, l3] (.ref x :: S) h Q := AW_n cdn_L_law rfl rfl
set_option maxRecDepth 20000 in
theorem st_L_law_803 {d : Nat} {S : List Value} {h : am_H} {Q : Option Value → am_H → Prop} {l0 l1 l2 : Option Value} {x : Int32} : AW d 0 803 [l0, l1, l2, some (.int x)] S h Q = AW d 0 804 [l0, l1, l2, some (.int x)] (.int x :: S) h Q := AW_n cdn_L_law rfl rfl
set_option maxRecDepth 20000 in
theorem st_L_law_804 {d : Nat} {L : am_L} {S : List Value} {h : am_H} {Q : Option Value → am_H → Prop} : AW d 0 804 L S h Q = AW d 0 805 L (.int 1 :: S) h Q := AW_n cdn_L_law rfl rfl
set_option maxRecDepth 20000 in
theorem st_L_law_805 {d : Nat} {L : am_L} {S : List Value} {h : am_H} {Q : Option Value → am_H → Prop} {x y : Int32} : AW d 0 805 L (.int y :: .int x :: S) h Q = AW d 0 806 L (.int (x + y) :: S) h Q := AW_n cdn_L_law rfl rfl
set_option maxRecDepth 20000 in
theorem st_L_law_806 {d : Nat} {L : am_L} {S : List Value} {Q : Option Value → am_H → Prop} {c : List (Nat × Nat)} {a : Nat → Nat → Int32} {r : Nat → Nat → Option Nat} {i : Int32} {k : Nat} (ht : am_tag c k = 20) (hi : inb i (am_len c k)) : AW d 0 806 L (.int i :: .ref k :: S) (c, a, r) Q = AW d 0 807 L (.int (a k i.toNatClampNeg) :: S) (c, a, r) Q := AW_ald cdn_L_law rfl (by decide) ht hi
set_option maxRecDepth 20000 in
theorem st_L_law_807 {d : Nat} {S : List Value} {h : am_H} {Q : Option Value → am_H → Prop} {l1 l2 l3 : Option Value} {x : Nat} : AW d 0 807 [some (.ref x), l1, l2, l3] S h Q = AW d 0 808 [some (.ref x), l1, l2, l3] (.ref x :: S) h Q := AW_n cdn_L_law rfl rfl
set_option maxRecDepth 20000 in
theorem st_L_law_808 {d : Nat} {S : List Value} {h : am_H} {Q : Option Value → am_H → Prop} {l0 l1 l2 : Option Value} {x : Int32} : AW d 0 808 [l0, l1, l2, some (.int x)] S h Q = AW d 0 809 [l0, l1, l2, some (.int x)] (.int x :: S) h Q := AW_n cdn_L_law rfl rfl
set_option maxRecDepth 20000 in
theorem st_L_law_809 {d : Nat} {L : am_L} {S : List Value} {h : am_H} {Q : Option Value → am_H → Prop} : AW d 0 809 L S h Q = AW d 0 810 L (.int 2 :: S) h Q := AW_n cdn_L_law rfl rfl
set_option maxRecDepth 20000 in
theorem st_L_law_810 {d : Nat} {L : am_L} {S : List Value} {h : am_H} {Q : Option Value → am_H → Prop} {x y : Int32} : AW d 0 810 L (.int y :: .int x :: S) h Q = AW d 0 811 L (.int (x + y) :: S) h Q := AW_n cdn_L_law rfl rfl
set_option maxRecDepth 20000 in
theorem st_L_law_811 {d : Nat} {L : am_L} {S : List Value} {Q : Option Value → am_H → Prop} {c : List (Nat × Nat)} {a : Nat → Nat → Int32} {r : Nat → Nat → Option Nat} {i : Int32} {k : Nat} (ht : am_tag c k = 20) (hi : inb i (am_len c k)) : AW d 0 811 L (.int i :: .ref k :: S) (c, a, r) Q = AW d 0 812 L (.int (a k i.toNatClampNeg) :: S) (c, a, r) Q := AW_ald cdn_L_law rfl (by decide) ht hi
set_option maxRecDepth 20000 in
theorem st_L_law_812 {d : Nat} {L : am_L} {S : List Value} {Q : Option Value → am_H → Prop} {c : List (Nat × Nat)} {a : Nat → Nat → Int32} {r : Nat → Nat → Option Nat} {k : Nat} {x1 : Int32} {x2 : Int32} (ht : am_tag c k = 10) (hS : (S.map fun v => v.category).sum ≤ 8) : AW (d + 1) 0 812 L (.int x2 :: .int x1 :: .ref k :: S) (c, a, r) Q = CALL d 160 [.ref k, .int x1, .int x2] (c, a, r) (fun v h9 => AW (d + 1) 0 815 L (v.toList ++ S) h9 Q) := AW_invV (n := 2) (t := [.int x2, .int x1]) cdn_L_law rfl (by decide) (Nat.le_of_ble_eq_true rfl) rfl rfl ht hS
set_option maxRecDepth 20000 in
theorem st_L_law_815 {d : Nat} {L : am_L} {S : List Value} {h : am_H} {Q : Option Value → am_H → Prop} {x y : Int32} : AW d 0 815 L (.int y :: .int x :: S) h Q = if x = y then AW d 0 1579 L S h Q else AW d 0 818 L S h Q := AW_if cdn_L_law rfl rfl
set_option maxRecDepth 20000 in
theorem st_L_law_818 {d : Nat} {L : am_L} {S : List Value} {h : am_H} {Q : Option Value → am_H → Prop} : AW d 0 818 L S h Q = AW d 0 819 L (.int 0 :: S) h Q := AW_n cdn_L_law rfl rfl
set_option maxRecDepth 20000 in
theorem st_L_law_819 {d : Nat} {L : am_L} {h : am_H} {Q : Option Value → am_H → Prop} {x : Int32} (hx : x = 0 ∨ x = 1) : AW d 0 819 L [.int x] h Q = Q (some (.int x)) h := AW_zret cdn_L_law rfl hx
set_option maxRecDepth 20000 in
theorem st_L_law_820 {d : Nat} {S : List Value} {h : am_H} {Q : Option Value → am_H → Prop} {l0 l2 l3 : Option Value} {x : Nat} : AW d 0 820 [l0, some (.ref x), l2, l3] S h Q = AW d 0 821 [l0, some (.ref x), l2, l3] (.ref x :: S) h Q := AW_n cdn_L_law rfl rfl
set_option maxRecDepth 20000 in
theorem st_L_law_821 {d : Nat} {S : List Value} {h : am_H} {Q : Option Value → am_H → Prop} {l1 l2 l3 : Option Value} {x : Nat} : AW d 0 821 [some (.ref x), l1, l2, l3] S h Q = AW d 0 822 [some (.ref x), l1, l2, l3] (.ref x :: S) h Q := AW_n cdn_L_law rfl rfl
set_option maxRecDepth 20000 in
theorem st_L_law_822 {d : Nat} {S : List Value} {h : am_H} {Q : Option Value → am_H → Prop} {l0 l1 l2 : Option Value} {x : Int32} : AW d 0 822 [l0, l1, l2, some (.int x)] S h Q = AW d 0 823 [l0, l1, l2, some (.int x)] (.int x :: S) h Q := AW_n cdn_L_law rfl rfl
set_option maxRecDepth 20000 in
theorem st_L_law_823 {d : Nat} {L : am_L} {S : List Value} {h : am_H} {Q : Option Value → am_H → Prop} : AW d 0 823 L S h Q = AW d 0 824 L (.int 1 :: S) h Q := AW_n cdn_L_law rfl rfl
set_option maxRecDepth 20000 in
theorem st_L_law_824 {d : Nat} {L : am_L} {S : List Value} {h : am_H} {Q : Option Value → am_H → Prop} {x y : Int32} : AW d 0 824 L (.int y :: .int x :: S) h Q = AW d 0 825 L (.int (x + y) :: S) h Q := AW_n cdn_L_law rfl rfl
set_option maxRecDepth 20000 in
theorem st_L_law_825 {d : Nat} {L : am_L} {S : List Value} {Q : Option Value → am_H → Prop} {c : List (Nat × Nat)} {a : Nat → Nat → Int32} {r : Nat → Nat → Option Nat} {i : Int32} {k : Nat} (ht : am_tag c k = 20) (hi : inb i (am_len c k)) : AW d 0 825 L (.int i :: .ref k :: S) (c, a, r) Q = AW d 0 826 L (.int (a k i.toNatClampNeg) :: S) (c, a, r) Q := AW_ald cdn_L_law rfl (by decide) ht hi
set_option maxRecDepth 20000 in
theorem st_L_law_826 {d : Nat} {L : am_L} {S : List Value} {Q : Option Value → am_H → Prop} {c : List (Nat × Nat)} {a : Nat → Nat → Int32} {r : Nat → Nat → Option Nat} {k : Nat} {x1 : Int32} (ht : am_tag c k = 9) (hS : (S.map fun v => v.category).sum ≤ 8) : AW (d + 1) 0 826 L (.int x1 :: .ref k :: S) (c, a, r) Q = CALL d 88 [.ref k, .int x1] (c, a, r) (fun v h9 => AW (d + 1) 0 829 L (v.toList ++ S) h9 Q) := AW_invV (n := 1) (t := [.int x1]) cdn_L_law rfl (by decide) (Nat.le_of_ble_eq_true rfl) rfl rfl ht hS
set_option maxRecDepth 20000 in
theorem st_L_law_829 {d : Nat} {S : List Value} {h : am_H} {Q : Option Value → am_H → Prop} {l0 l1 l3 : Option Value} {x : Nat} : AW d 0 829 [l0, l1, some (.ref x), l3] S h Q = AW d 0 830 [l0, l1, some (.ref x), l3] (.ref x :: S) h Q := AW_n cdn_L_law rfl rfl
set_option maxRecDepth 20000 in
theorem st_L_law_830 {d : Nat} {S : List Value} {h : am_H} {Q : Option Value → am_H → Prop} {l1 l2 l3 : Option Value} {x : Nat} : AW d 0 830 [some (.ref x), l1, l2, l3] S h Q = AW d 0 831 [some (.ref x), l1, l2, l3] (.ref x :: S) h Q := AW_n cdn_L_law rfl rfl
set_option maxRecDepth 20000 in
theorem st_L_law_831 {d : Nat} {S : List Value} {h : am_H} {Q : Option Value → am_H → Prop} {l0 l1 l2 : Option Value} {x : Int32} : AW d 0 831 [l0, l1, l2, some (.int x)] S h Q = AW d 0 832 [l0, l1, l2, some (.int x)] (.int x :: S) h Q := AW_n cdn_L_law rfl rfl
set_option maxRecDepth 20000 in
theorem st_L_law_832 {d : Nat} {L : am_L} {S : List Value} {h : am_H} {Q : Option Value → am_H → Prop} : AW d 0 832 L S h Q = AW d 0 833 L (.int 1 :: S) h Q := AW_n cdn_L_law rfl rfl
set_option maxRecDepth 20000 in
theorem st_L_law_833 {d : Nat} {L : am_L} {S : List Value} {h : am_H} {Q : Option Value → am_H → Prop} {x y : Int32} : AW d 0 833 L (.int y :: .int x :: S) h Q = AW d 0 834 L (.int (x + y) :: S) h Q := AW_n cdn_L_law rfl rfl
set_option maxRecDepth 20000 in
theorem st_L_law_834 {d : Nat} {L : am_L} {S : List Value} {Q : Option Value → am_H → Prop} {c : List (Nat × Nat)} {a : Nat → Nat → Int32} {r : Nat → Nat → Option Nat} {i : Int32} {k : Nat} (ht : am_tag c k = 20) (hi : inb i (am_len c k)) : AW d 0 834 L (.int i :: .ref k :: S) (c, a, r) Q = AW d 0 835 L (.int (a k i.toNatClampNeg) :: S) (c, a, r) Q := AW_ald cdn_L_law rfl (by decide) ht hi
set_option maxRecDepth 20000 in
theorem st_L_law_835 {d : Nat} {L : am_L} {S : List Value} {Q : Option Value → am_H → Prop} {c : List (Nat × Nat)} {a : Nat → Nat → Int32} {r : Nat → Nat → Option Nat} {k : Nat} {x1 : Int32} (ht : am_tag c k = 10) (hS : (S.map fun v => v.category).sum ≤ 8) : AW (d + 1) 0 835 L (.int x1 :: .ref k :: S) (c, a, r) Q = CALL d 161 [.ref k, .int x1] (c, a, r) (fun v h9 => AW (d + 1) 0 838 L (v.toList ++ S) h9 Q) := AW_invV (n := 1) (t := [.int x1]) cdn_L_law rfl (by decide) (Nat.le_of_ble_eq_true rfl) rfl rfl ht hS
set_option maxRecDepth 20000 in
theorem st_L_law_838 {d : Nat} {L : am_L} {S : List Value} {h : am_H} {Q : Option Value → am_H → Prop} {x y : Int32} : AW d 0 838 L (.int y :: .int x :: S) h Q = if x = y then AW d 0 1579 L S h Q else AW d 0 841 L S h Q := AW_if cdn_L_law rfl rfl
set_option maxRecDepth 20000 in
theorem st_L_law_841 {d : Nat} {L : am_L} {S : List Value} {h : am_H} {Q : Option Value → am_H → Prop} : AW d 0 841 L S h Q = AW d 0 842 L (.int 0 :: S) h Q := AW_n cdn_L_law rfl rfl
set_option maxRecDepth 20000 in
theorem st_L_law_842 {d : Nat} {L : am_L} {h : am_H} {Q : Option Value → am_H → Prop} {x : Int32} (hx : x = 0 ∨ x = 1) : AW d 0 842 L [.int x] h Q = Q (some (.int x)) h := AW_zret cdn_L_law rfl hx
set_option maxRecDepth 20000 in
theorem st_L_law_843 {d : Nat} {S : List Value} {h : am_H} {Q : Option Value → am_H → Prop} {l0 l2 l3 : Option Value} {x : Nat} : AW d 0 843 [l0, some (.ref x), l2, l3] S h Q = AW d 0 844 [l0, some (.ref x), l2, l3] (.ref x :: S) h Q := AW_n cdn_L_law rfl rfl
set_option maxRecDepth 20000 in
theorem st_L_law_844 {d : Nat} {S : List Value} {h : am_H} {Q : Option Value → am_H → Prop} {l1 l2 l3 : Option Value} {x : Nat} : AW d 0 844 [some (.ref x), l1, l2, l3] S h Q = AW d 0 845 [some (.ref x), l1, l2, l3] (.ref x :: S) h Q := AW_n cdn_L_law rfl rfl
set_option maxRecDepth 20000 in
theorem st_L_law_845 {d : Nat} {S : List Value} {h : am_H} {Q : Option Value → am_H → Prop} {l0 l1 l2 : Option Value} {x : Int32} : AW d 0 845 [l0, l1, l2, some (.int x)] S h Q = AW d 0 846 [l0, l1, l2, some (.int x)] (.int x :: S) h Q := AW_n cdn_L_law rfl rfl
set_option maxRecDepth 20000 in
theorem st_L_law_846 {d : Nat} {L : am_L} {S : List Value} {h : am_H} {Q : Option Value → am_H → Prop} : AW d 0 846 L S h Q = AW d 0 847 L (.int 1 :: S) h Q := AW_n cdn_L_law rfl rfl
set_option maxRecDepth 20000 in
theorem st_L_law_847 {d : Nat} {L : am_L} {S : List Value} {h : am_H} {Q : Option Value → am_H → Prop} {x y : Int32} : AW d 0 847 L (.int y :: .int x :: S) h Q = AW d 0 848 L (.int (x + y) :: S) h Q := AW_n cdn_L_law rfl rfl
set_option maxRecDepth 20000 in
theorem st_L_law_848 {d : Nat} {L : am_L} {S : List Value} {Q : Option Value → am_H → Prop} {c : List (Nat × Nat)} {a : Nat → Nat → Int32} {r : Nat → Nat → Option Nat} {i : Int32} {k : Nat} (ht : am_tag c k = 20) (hi : inb i (am_len c k)) : AW d 0 848 L (.int i :: .ref k :: S) (c, a, r) Q = AW d 0 849 L (.int (a k i.toNatClampNeg) :: S) (c, a, r) Q := AW_ald cdn_L_law rfl (by decide) ht hi
set_option maxRecDepth 20000 in
theorem st_L_law_849 {d : Nat} {L : am_L} {S : List Value} {Q : Option Value → am_H → Prop} {c : List (Nat × Nat)} {a : Nat → Nat → Int32} {r : Nat → Nat → Option Nat} {k : Nat} {x1 : Int32} (ht : am_tag c k = 9) (hS : (S.map fun v => v.category).sum ≤ 8) : AW (d + 1) 0 849 L (.int x1 :: .ref k :: S) (c, a, r) Q = CALL d 89 [.ref k, .int x1] (c, a, r) (fun v h9 => AW (d + 1) 0 852 L (v.toList ++ S) h9 Q) := AW_invV (n := 1) (t := [.int x1]) cdn_L_law rfl (by decide) (Nat.le_of_ble_eq_true rfl) rfl rfl ht hS
set_option maxRecDepth 20000 in
theorem st_L_law_852 {d : Nat} {S : List Value} {h : am_H} {Q : Option Value → am_H → Prop} {l0 l1 l3 : Option Value} {x : Nat} : AW d 0 852 [l0, l1, some (.ref x), l3] S h Q = AW d 0 853 [l0, l1, some (.ref x), l3] (.ref x :: S) h Q := AW_n cdn_L_law rfl rfl
set_option maxRecDepth 20000 in
theorem st_L_law_853 {d : Nat} {S : List Value} {h : am_H} {Q : Option Value → am_H → Prop} {l1 l2 l3 : Option Value} {x : Nat} : AW d 0 853 [some (.ref x), l1, l2, l3] S h Q = AW d 0 854 [some (.ref x), l1, l2, l3] (.ref x :: S) h Q := AW_n cdn_L_law rfl rfl
set_option maxRecDepth 20000 in
theorem st_L_law_854 {d : Nat} {S : List Value} {h : am_H} {Q : Option Value → am_H → Prop} {l0 l1 l2 : Option Value} {x : Int32} : AW d 0 854 [l0, l1, l2, some (.int x)] S h Q = AW d 0 855 [l0, l1, l2, some (.int x)] (.int x :: S) h Q := AW_n cdn_L_law rfl rfl
set_option maxRecDepth 20000 in
theorem st_L_law_855 {d : Nat} {L : am_L} {S : List Value} {h : am_H} {Q : Option Value → am_H → Prop} : AW d 0 855 L S h Q = AW d 0 856 L (.int 1 :: S) h Q := AW_n cdn_L_law rfl rfl
set_option maxRecDepth 20000 in
theorem st_L_law_856 {d : Nat} {L : am_L} {S : List Value} {h : am_H} {Q : Option Value → am_H → Prop} {x y : Int32} : AW d 0 856 L (.int y :: .int x :: S) h Q = AW d 0 857 L (.int (x + y) :: S) h Q := AW_n cdn_L_law rfl rfl
set_option maxRecDepth 20000 in
theorem st_L_law_857 {d : Nat} {L : am_L} {S : List Value} {Q : Option Value → am_H → Prop} {c : List (Nat × Nat)} {a : Nat → Nat → Int32} {r : Nat → Nat → Option Nat} {i : Int32} {k : Nat} (ht : am_tag c k = 20) (hi : inb i (am_len c k)) : AW d 0 857 L (.int i :: .ref k :: S) (c, a, r) Q = AW d 0 858 L (.int (a k i.toNatClampNeg) :: S) (c, a, r) Q := AW_ald cdn_L_law rfl (by decide) ht hi
set_option maxRecDepth 20000 in
theorem st_L_law_858 {d : Nat} {L : am_L} {S : List Value} {Q : Option Value → am_H → Prop} {c : List (Nat × Nat)} {a : Nat → Nat → Int32} {r : Nat → Nat → Option Nat} {k : Nat} {x1 : Int32} (ht : am_tag c k = 10) (hS : (S.map fun v => v.category).sum ≤ 8) : AW (d + 1) 0 858 L (.int x1 :: .ref k :: S) (c, a, r) Q = CALL d 165 [.ref k, .int x1] (c, a, r) (fun v h9 => AW (d + 1) 0 861 L (v.toList ++ S) h9 Q) := AW_invV (n := 1) (t := [.int x1]) cdn_L_law rfl (by decide) (Nat.le_of_ble_eq_true rfl) rfl rfl ht hS
set_option maxRecDepth 20000 in
theorem st_L_law_861 {d : Nat} {L : am_L} {S : List Value} {h : am_H} {Q : Option Value → am_H → Prop} {x y : Int32} : AW d 0 861 L (.int y :: .int x :: S) h Q = if x = y then AW d 0 1579 L S h Q else AW d 0 864 L S h Q := AW_if cdn_L_law rfl rfl
set_option maxRecDepth 20000 in
theorem st_L_law_864 {d : Nat} {L : am_L} {S : List Value} {h : am_H} {Q : Option Value → am_H → Prop} : AW d 0 864 L S h Q = AW d 0 865 L (.int 0 :: S) h Q := AW_n cdn_L_law rfl rfl
set_option maxRecDepth 20000 in
theorem st_L_law_865 {d : Nat} {L : am_L} {h : am_H} {Q : Option Value → am_H → Prop} {x : Int32} (hx : x = 0 ∨ x = 1) : AW d 0 865 L [.int x] h Q = Q (some (.int x)) h := AW_zret cdn_L_law rfl hx
set_option maxRecDepth 20000 in
theorem st_L_law_866 {d : Nat} {S : List Value} {h : am_H} {Q : Option Value → am_H → Prop} {l0 l2 l3 : Option Value} {x : Nat} : AW d 0 866 [l0, some (.ref x), l2, l3] S h Q = AW d 0 867 [l0, some (.ref x), l2, l3] (.ref x :: S) h Q := AW_n cdn_L_law rfl rfl
set_option maxRecDepth 20000 in
theorem st_L_law_867 {d : Nat} {S : List Value} {h : am_H} {Q : Option Value → am_H → Prop} {l1 l2 l3 : Option Value} {x : Nat} : AW d 0 867 [some (.ref x), l1, l2, l3] S h Q = AW d 0 868 [some (.ref x), l1, l2, l3] (.ref x :: S) h Q := AW_n cdn_L_law rfl rfl
set_option maxRecDepth 20000 in
theorem st_L_law_868 {d : Nat} {S : List Value} {h : am_H} {Q : Option Value → am_H → Prop} {l0 l1 l2 : Option Value} {x : Int32} : AW d 0 868 [l0, l1, l2, some (.int x)] S h Q = AW d 0 869 [l0, l1, l2, some (.int x)] (.int x :: S) h Q := AW_n cdn_L_law rfl rfl
set_option maxRecDepth 20000 in
theorem st_L_law_869 {d : Nat} {L : am_L} {S : List Value} {h : am_H} {Q : Option Value → am_H → Prop} : AW d 0 869 L S h Q = AW d 0 870 L (.int 1 :: S) h Q := AW_n cdn_L_law rfl rfl
set_option maxRecDepth 20000 in
theorem st_L_law_870 {d : Nat} {L : am_L} {S : List Value} {h : am_H} {Q : Option Value → am_H → Prop} {x y : Int32} : AW d 0 870 L (.int y :: .int x :: S) h Q = AW d 0 871 L (.int (x + y) :: S) h Q := AW_n cdn_L_law rfl rfl
set_option maxRecDepth 20000 in
theorem st_L_law_871 {d : Nat} {L : am_L} {S : List Value} {Q : Option Value → am_H → Prop} {c : List (Nat × Nat)} {a : Nat → Nat → Int32} {r : Nat → Nat → Option Nat} {i : Int32} {k : Nat} (ht : am_tag c k = 20) (hi : inb i (am_len c k)) : AW d 0 871 L (.int i :: .ref k :: S) (c, a, r) Q = AW d 0 872 L (.int (a k i.toNatClampNeg) :: S) (c, a, r) Q := AW_ald cdn_L_law rfl (by decide) ht hi
set_option maxRecDepth 20000 in
theorem st_L_law_872 {d : Nat} {S : List Value} {h : am_H} {Q : Option Value → am_H → Prop} {l1 l2 l3 : Option Value} {x : Nat} : AW d 0 872 [some (.ref x), l1, l2, l3] S h Q = AW d 0 873 [some (.ref x), l1, l2, l3] (.ref x :: S) h Q := AW_n cdn_L_law rfl rfl
set_option maxRecDepth 20000 in
theorem st_L_law_873 {d : Nat} {S : List Value} {h : am_H} {Q : Option Value → am_H → Prop} {l0 l1 l2 : Option Value} {x : Int32} : AW d 0 873 [l0, l1, l2, some (.int x)] S h Q = AW d 0 874 [l0, l1, l2, some (.int x)] (.int x :: S) h Q := AW_n cdn_L_law rfl rfl
set_option maxRecDepth 20000 in
theorem st_L_law_874 {d : Nat} {L : am_L} {S : List Value} {h : am_H} {Q : Option Value → am_H → Prop} : AW d 0 874 L S h Q = AW d 0 875 L (.int 2 :: S) h Q := AW_n cdn_L_law rfl rfl
set_option maxRecDepth 20000 in
theorem st_L_law_875 {d : Nat} {L : am_L} {S : List Value} {h : am_H} {Q : Option Value → am_H → Prop} {x y : Int32} : AW d 0 875 L (.int y :: .int x :: S) h Q = AW d 0 876 L (.int (x + y) :: S) h Q := AW_n cdn_L_law rfl rfl
set_option maxRecDepth 20000 in
theorem st_L_law_876 {d : Nat} {L : am_L} {S : List Value} {Q : Option Value → am_H → Prop} {c : List (Nat × Nat)} {a : Nat → Nat → Int32} {r : Nat → Nat → Option Nat} {i : Int32} {k : Nat} (ht : am_tag c k = 20) (hi : inb i (am_len c k)) : AW d 0 876 L (.int i :: .ref k :: S) (c, a, r) Q = AW d 0 877 L (.int (a k i.toNatClampNeg) :: S) (c, a, r) Q := AW_ald cdn_L_law rfl (by decide) ht hi
set_option maxRecDepth 20000 in
theorem st_L_law_877 {d : Nat} {L : am_L} {S : List Value} {Q : Option Value → am_H → Prop} {c : List (Nat × Nat)} {a : Nat → Nat → Int32} {r : Nat → Nat → Option Nat} {k : Nat} {x1 : Int32} {x2 : Int32} (ht : am_tag c k = 9) (hS : (S.map fun v => v.category).sum ≤ 8) : AW (d + 1) 0 877 L (.int x2 :: .int x1 :: .ref k :: S) (c, a, r) Q = CALL d 90 [.ref k, .int x1, .int x2] (c, a, r) (fun v h9 => AW (d + 1) 0 880 L (v.toList ++ S) h9 Q) := AW_invV (n := 2) (t := [.int x2, .int x1]) cdn_L_law rfl (by decide) (Nat.le_of_ble_eq_true rfl) rfl rfl ht hS
set_option maxRecDepth 20000 in
theorem st_L_law_880 {d : Nat} {S : List Value} {h : am_H} {Q : Option Value → am_H → Prop} {l0 l1 l3 : Option Value} {x : Nat} : AW d 0 880 [l0, l1, some (.ref x), l3] S h Q = AW d 0 881 [l0, l1, some (.ref x), l3] (.ref x :: S) h Q := AW_n cdn_L_law rfl rfl
set_option maxRecDepth 20000 in
theorem st_L_law_881 {d : Nat} {S : List Value} {h : am_H} {Q : Option Value → am_H → Prop} {l1 l2 l3 : Option Value} {x : Nat} : AW d 0 881 [some (.ref x), l1, l2, l3] S h Q = AW d 0 882 [some (.ref x), l1, l2, l3] (.ref x :: S) h Q := AW_n cdn_L_law rfl rfl
set_option maxRecDepth 20000 in
theorem st_L_law_882 {d : Nat} {S : List Value} {h : am_H} {Q : Option Value → am_H → Prop} {l0 l1 l2 : Option Value} {x : Int32} : AW d 0 882 [l0, l1, l2, some (.int x)] S h Q = AW d 0 883 [l0, l1, l2, some (.int x)] (.int x :: S) h Q := AW_n cdn_L_law rfl rfl
set_option maxRecDepth 20000 in
theorem st_L_law_883 {d : Nat} {L : am_L} {S : List Value} {h : am_H} {Q : Option Value → am_H → Prop} : AW d 0 883 L S h Q = AW d 0 884 L (.int 1 :: S) h Q := AW_n cdn_L_law rfl rfl
set_option maxRecDepth 20000 in
theorem st_L_law_884 {d : Nat} {L : am_L} {S : List Value} {h : am_H} {Q : Option Value → am_H → Prop} {x y : Int32} : AW d 0 884 L (.int y :: .int x :: S) h Q = AW d 0 885 L (.int (x + y) :: S) h Q := AW_n cdn_L_law rfl rfl
set_option maxRecDepth 20000 in
theorem st_L_law_885 {d : Nat} {L : am_L} {S : List Value} {Q : Option Value → am_H → Prop} {c : List (Nat × Nat)} {a : Nat → Nat → Int32} {r : Nat → Nat → Option Nat} {i : Int32} {k : Nat} (ht : am_tag c k = 20) (hi : inb i (am_len c k)) : AW d 0 885 L (.int i :: .ref k :: S) (c, a, r) Q = AW d 0 886 L (.int (a k i.toNatClampNeg) :: S) (c, a, r) Q := AW_ald cdn_L_law rfl (by decide) ht hi
set_option maxRecDepth 20000 in
theorem st_L_law_886 {d : Nat} {S : List Value} {h : am_H} {Q : Option Value → am_H → Prop} {l1 l2 l3 : Option Value} {x : Nat} : AW d 0 886 [some (.ref x), l1, l2, l3] S h Q = AW d 0 887 [some (.ref x), l1, l2, l3] (.ref x :: S) h Q := AW_n cdn_L_law rfl rfl
set_option maxRecDepth 20000 in
theorem st_L_law_887 {d : Nat} {S : List Value} {h : am_H} {Q : Option Value → am_H → Prop} {l0 l1 l2 : Option Value} {x : Int32} : AW d 0 887 [l0, l1, l2, some (.int x)] S h Q = AW d 0 888 [l0, l1, l2, some (.int x)] (.int x :: S) h Q := AW_n cdn_L_law rfl rfl
set_option maxRecDepth 20000 in
theorem st_L_law_888 {d : Nat} {L : am_L} {S : List Value} {h : am_H} {Q : Option Value → am_H → Prop} : AW d 0 888 L S h Q = AW d 0 889 L (.int 2 :: S) h Q := AW_n cdn_L_law rfl rfl
set_option maxRecDepth 20000 in
theorem st_L_law_889 {d : Nat} {L : am_L} {S : List Value} {h : am_H} {Q : Option Value → am_H → Prop} {x y : Int32} : AW d 0 889 L (.int y :: .int x :: S) h Q = AW d 0 890 L (.int (x + y) :: S) h Q := AW_n cdn_L_law rfl rfl
set_option maxRecDepth 20000 in
theorem st_L_law_890 {d : Nat} {L : am_L} {S : List Value} {Q : Option Value → am_H → Prop} {c : List (Nat × Nat)} {a : Nat → Nat → Int32} {r : Nat → Nat → Option Nat} {i : Int32} {k : Nat} (ht : am_tag c k = 20) (hi : inb i (am_len c k)) : AW d 0 890 L (.int i :: .ref k :: S) (c, a, r) Q = AW d 0 891 L (.int (a k i.toNatClampNeg) :: S) (c, a, r) Q := AW_ald cdn_L_law rfl (by decide) ht hi
set_option maxRecDepth 20000 in
theorem st_L_law_891 {d : Nat} {L : am_L} {S : List Value} {Q : Option Value → am_H → Prop} {c : List (Nat × Nat)} {a : Nat → Nat → Int32} {r : Nat → Nat → Option Nat} {k : Nat} {x1 : Int32} {x2 : Int32} (ht : am_tag c k = 10) (hS : (S.map fun v => v.category).sum ≤ 8) : AW (d + 1) 0 891 L (.int x2 :: .int x1 :: .ref k :: S) (c, a, r) Q = CALL d 166 [.ref k, .int x1, .int x2] (c, a, r) (fun v h9 => AW (d + 1) 0 894 L (v.toList ++ S) h9 Q) := AW_invV (n := 2) (t := [.int x2, .int x1]) cdn_L_law rfl (by decide) (Nat.le_of_ble_eq_true rfl) rfl rfl ht hS
set_option maxRecDepth 20000 in
theorem st_L_law_894 {d : Nat} {L : am_L} {S : List Value} {h : am_H} {Q : Option Value → am_H → Prop} {x y : Int32} : AW d 0 894 L (.int y :: .int x :: S) h Q = if x = y then AW d 0 1579 L S h Q else AW d 0 897 L S h Q := AW_if cdn_L_law rfl rfl
set_option maxRecDepth 20000 in
theorem st_L_law_897 {d : Nat} {L : am_L} {S : List Value} {h : am_H} {Q : Option Value → am_H → Prop} : AW d 0 897 L S h Q = AW d 0 898 L (.int 0 :: S) h Q := AW_n cdn_L_law rfl rfl
set_option maxRecDepth 20000 in
theorem st_L_law_898 {d : Nat} {L : am_L} {h : am_H} {Q : Option Value → am_H → Prop} {x : Int32} (hx : x = 0 ∨ x = 1) : AW d 0 898 L [.int x] h Q = Q (some (.int x)) h := AW_zret cdn_L_law rfl hx
set_option maxRecDepth 20000 in
theorem st_L_law_899 {d : Nat} {S : List Value} {h : am_H} {Q : Option Value → am_H → Prop} {l0 l2 l3 : Option Value} {x : Nat} : AW d 0 899 [l0, some (.ref x), l2, l3] S h Q = AW d 0 900 [l0, some (.ref x), l2, l3] (.ref x :: S) h Q := AW_n cdn_L_law rfl rfl
set_option maxRecDepth 20000 in
theorem st_L_law_900 {d : Nat} {S : List Value} {h : am_H} {Q : Option Value → am_H → Prop} {l1 l2 l3 : Option Value} {x : Nat} : AW d 0 900 [some (.ref x), l1, l2, l3] S h Q = AW d 0 901 [some (.ref x), l1, l2, l3] (.ref x :: S) h Q := AW_n cdn_L_law rfl rfl
set_option maxRecDepth 20000 in
theorem st_L_law_901 {d : Nat} {S : List Value} {h : am_H} {Q : Option Value → am_H → Prop} {l0 l1 l2 : Option Value} {x : Int32} : AW d 0 901 [l0, l1, l2, some (.int x)] S h Q = AW d 0 902 [l0, l1, l2, some (.int x)] (.int x :: S) h Q := AW_n cdn_L_law rfl rfl
set_option maxRecDepth 20000 in
theorem st_L_law_902 {d : Nat} {L : am_L} {S : List Value} {h : am_H} {Q : Option Value → am_H → Prop} : AW d 0 902 L S h Q = AW d 0 903 L (.int 1 :: S) h Q := AW_n cdn_L_law rfl rfl
set_option maxRecDepth 20000 in
theorem st_L_law_903 {d : Nat} {L : am_L} {S : List Value} {h : am_H} {Q : Option Value → am_H → Prop} {x y : Int32} : AW d 0 903 L (.int y :: .int x :: S) h Q = AW d 0 904 L (.int (x + y) :: S) h Q := AW_n cdn_L_law rfl rfl
set_option maxRecDepth 20000 in
theorem st_L_law_904 {d : Nat} {L : am_L} {S : List Value} {Q : Option Value → am_H → Prop} {c : List (Nat × Nat)} {a : Nat → Nat → Int32} {r : Nat → Nat → Option Nat} {i : Int32} {k : Nat} (ht : am_tag c k = 20) (hi : inb i (am_len c k)) : AW d 0 904 L (.int i :: .ref k :: S) (c, a, r) Q = AW d 0 905 L (.int (a k i.toNatClampNeg) :: S) (c, a, r) Q := AW_ald cdn_L_law rfl (by decide) ht hi
set_option maxRecDepth 20000 in
theorem st_L_law_905 {d : Nat} {S : List Value} {h : am_H} {Q : Option Value → am_H → Prop} {l1 l2 l3 : Option Value} {x : Nat} : AW d 0 905 [some (.ref x), l1, l2, l3] S h Q = AW d 0 906 [some (.ref x), l1, l2, l3] (.ref x :: S) h Q := AW_n cdn_L_law rfl rfl
set_option maxRecDepth 20000 in
theorem st_L_law_906 {d : Nat} {S : List Value} {h : am_H} {Q : Option Value → am_H → Prop} {l0 l1 l2 : Option Value} {x : Int32} : AW d 0 906 [l0, l1, l2, some (.int x)] S h Q = AW d 0 907 [l0, l1, l2, some (.int x)] (.int x :: S) h Q := AW_n cdn_L_law rfl rfl
set_option maxRecDepth 20000 in
theorem st_L_law_907 {d : Nat} {L : am_L} {S : List Value} {h : am_H} {Q : Option Value → am_H → Prop} : AW d 0 907 L S h Q = AW d 0 908 L (.int 2 :: S) h Q := AW_n cdn_L_law rfl rfl
set_option maxRecDepth 20000 in
theorem st_L_law_908 {d : Nat} {L : am_L} {S : List Value} {h : am_H} {Q : Option Value → am_H → Prop} {x y : Int32} : AW d 0 908 L (.int y :: .int x :: S) h Q = AW d 0 909 L (.int (x + y) :: S) h Q := AW_n cdn_L_law rfl rfl
set_option maxRecDepth 20000 in
theorem st_L_law_909 {d : Nat} {L : am_L} {S : List Value} {Q : Option Value → am_H → Prop} {c : List (Nat × Nat)} {a : Nat → Nat → Int32} {r : Nat → Nat → Option Nat} {i : Int32} {k : Nat} (ht : am_tag c k = 20) (hi : inb i (am_len c k)) : AW d 0 909 L (.int i :: .ref k :: S) (c, a, r) Q = AW d 0 910 L (.int (a k i.toNatClampNeg) :: S) (c, a, r) Q := AW_ald cdn_L_law rfl (by decide) ht hi
set_option maxRecDepth 20000 in
theorem st_L_law_910 {d : Nat} {L : am_L} {S : List Value} {Q : Option Value → am_H → Prop} {c : List (Nat × Nat)} {a : Nat → Nat → Int32} {r : Nat → Nat → Option Nat} {k : Nat} {x1 : Int32} {x2 : Int32} (ht : am_tag c k = 9) (hS : (S.map fun v => v.category).sum ≤ 8) : AW (d + 1) 0 910 L (.int x2 :: .int x1 :: .ref k :: S) (c, a, r) Q = CALL d 91 [.ref k, .int x1, .int x2] (c, a, r) (fun v h9 => AW (d + 1) 0 913 L (v.toList ++ S) h9 Q) := AW_invV (n := 2) (t := [.int x2, .int x1]) cdn_L_law rfl (by decide) (Nat.le_of_ble_eq_true rfl) rfl rfl ht hS
set_option maxRecDepth 20000 in
theorem st_L_law_913 {d : Nat} {S : List Value} {h : am_H} {Q : Option Value → am_H → Prop} {l0 l1 l3 : Option Value} {x : Nat} : AW d 0 913 [l0, l1, some (.ref x), l3] S h Q = AW d 0 914 [l0, l1, some (.ref x), l3] (.ref x :: S) h Q := AW_n cdn_L_law rfl rfl
set_option maxRecDepth 20000 in
theorem st_L_law_914 {d : Nat} {S : List Value} {h : am_H} {Q : Option Value → am_H → Prop} {l1 l2 l3 : Option Value} {x : Nat} : AW d 0 914 [some (.ref x), l1, l2, l3] S h Q = AW d 0 915 [some (.ref x), l1, l2, l3] (.ref x :: S) h Q := AW_n cdn_L_law rfl rfl
set_option maxRecDepth 20000 in
theorem st_L_law_915 {d : Nat} {S : List Value} {h : am_H} {Q : Option Value → am_H → Prop} {l0 l1 l2 : Option Value} {x : Int32} : AW d 0 915 [l0, l1, l2, some (.int x)] S h Q = AW d 0 916 [l0, l1, l2, some (.int x)] (.int x :: S) h Q := AW_n cdn_L_law rfl rfl
set_option maxRecDepth 20000 in
theorem st_L_law_916 {d : Nat} {L : am_L} {S : List Value} {h : am_H} {Q : Option Value → am_H → Prop} : AW d 0 916 L S h Q = AW d 0 917 L (.int 1 :: S) h Q := AW_n cdn_L_law rfl rfl
set_option maxRecDepth 20000 in
theorem st_L_law_917 {d : Nat} {L : am_L} {S : List Value} {h : am_H} {Q : Option Value → am_H → Prop} {x y : Int32} : AW d 0 917 L (.int y :: .int x :: S) h Q = AW d 0 918 L (.int (x + y) :: S) h Q := AW_n cdn_L_law rfl rfl
set_option maxRecDepth 20000 in
theorem st_L_law_918 {d : Nat} {L : am_L} {S : List Value} {Q : Option Value → am_H → Prop} {c : List (Nat × Nat)} {a : Nat → Nat → Int32} {r : Nat → Nat → Option Nat} {i : Int32} {k : Nat} (ht : am_tag c k = 20) (hi : inb i (am_len c k)) : AW d 0 918 L (.int i :: .ref k :: S) (c, a, r) Q = AW d 0 919 L (.int (a k i.toNatClampNeg) :: S) (c, a, r) Q := AW_ald cdn_L_law rfl (by decide) ht hi
set_option maxRecDepth 20000 in
theorem st_L_law_919 {d : Nat} {S : List Value} {h : am_H} {Q : Option Value → am_H → Prop} {l1 l2 l3 : Option Value} {x : Nat} : AW d 0 919 [some (.ref x), l1, l2, l3] S h Q = AW d 0 920 [some (.ref x), l1, l2, l3] (.ref x :: S) h Q := AW_n cdn_L_law rfl rfl
set_option maxRecDepth 20000 in
theorem st_L_law_920 {d : Nat} {S : List Value} {h : am_H} {Q : Option Value → am_H → Prop} {l0 l1 l2 : Option Value} {x : Int32} : AW d 0 920 [l0, l1, l2, some (.int x)] S h Q = AW d 0 921 [l0, l1, l2, some (.int x)] (.int x :: S) h Q := AW_n cdn_L_law rfl rfl
set_option maxRecDepth 20000 in
theorem st_L_law_921 {d : Nat} {L : am_L} {S : List Value} {h : am_H} {Q : Option Value → am_H → Prop} : AW d 0 921 L S h Q = AW d 0 922 L (.int 2 :: S) h Q := AW_n cdn_L_law rfl rfl
set_option maxRecDepth 20000 in
theorem st_L_law_922 {d : Nat} {L : am_L} {S : List Value} {h : am_H} {Q : Option Value → am_H → Prop} {x y : Int32} : AW d 0 922 L (.int y :: .int x :: S) h Q = AW d 0 923 L (.int (x + y) :: S) h Q := AW_n cdn_L_law rfl rfl
set_option maxRecDepth 20000 in
theorem st_L_law_923 {d : Nat} {L : am_L} {S : List Value} {Q : Option Value → am_H → Prop} {c : List (Nat × Nat)} {a : Nat → Nat → Int32} {r : Nat → Nat → Option Nat} {i : Int32} {k : Nat} (ht : am_tag c k = 20) (hi : inb i (am_len c k)) : AW d 0 923 L (.int i :: .ref k :: S) (c, a, r) Q = AW d 0 924 L (.int (a k i.toNatClampNeg) :: S) (c, a, r) Q := AW_ald cdn_L_law rfl (by decide) ht hi
set_option maxRecDepth 20000 in
theorem st_L_law_924 {d : Nat} {L : am_L} {S : List Value} {Q : Option Value → am_H → Prop} {c : List (Nat × Nat)} {a : Nat → Nat → Int32} {r : Nat → Nat → Option Nat} {k : Nat} {x1 : Int32} {x2 : Int32} (ht : am_tag c k = 10) (hS : (S.map fun v => v.category).sum ≤ 8) : AW (d + 1) 0 924 L (.int x2 :: .int x1 :: .ref k :: S) (c, a, r) Q = CALL d 168 [.ref k, .int x1, .int x2] (c, a, r) (fun v h9 => AW (d + 1) 0 927 L (v.toList ++ S) h9 Q) := AW_invV (n := 2) (t := [.int x2, .int x1]) cdn_L_law rfl (by decide) (Nat.le_of_ble_eq_true rfl) rfl rfl ht hS
set_option maxRecDepth 20000 in
theorem st_L_law_927 {d : Nat} {L : am_L} {S : List Value} {h : am_H} {Q : Option Value → am_H → Prop} {x y : Int32} : AW d 0 927 L (.int y :: .int x :: S) h Q = if x = y then AW d 0 1579 L S h Q else AW d 0 930 L S h Q := AW_if cdn_L_law rfl rfl
set_option maxRecDepth 20000 in
theorem st_L_law_930 {d : Nat} {L : am_L} {S : List Value} {h : am_H} {Q : Option Value → am_H → Prop} : AW d 0 930 L S h Q = AW d 0 931 L (.int 0 :: S) h Q := AW_n cdn_L_law rfl rfl
set_option maxRecDepth 20000 in
theorem st_L_law_931 {d : Nat} {L : am_L} {h : am_H} {Q : Option Value → am_H → Prop} {x : Int32} (hx : x = 0 ∨ x = 1) : AW d 0 931 L [.int x] h Q = Q (some (.int x)) h := AW_zret cdn_L_law rfl hx
set_option maxRecDepth 20000 in
theorem st_L_law_932 {d : Nat} {S : List Value} {h : am_H} {Q : Option Value → am_H → Prop} {l0 l2 l3 : Option Value} {x : Nat} : AW d 0 932 [l0, some (.ref x), l2, l3] S h Q = AW d 0 933 [l0, some (.ref x), l2, l3] (.ref x :: S) h Q := AW_n cdn_L_law rfl rfl
set_option maxRecDepth 20000 in
theorem st_L_law_933 {d : Nat} {S : List Value} {h : am_H} {Q : Option Value → am_H → Prop} {l1 l2 l3 : Option Value} {x : Nat} : AW d 0 933 [some (.ref x), l1, l2, l3] S h Q = AW d 0 934 [some (.ref x), l1, l2, l3] (.ref x :: S) h Q := AW_n cdn_L_law rfl rfl
set_option maxRecDepth 20000 in
theorem st_L_law_934 {d : Nat} {S : List Value} {h : am_H} {Q : Option Value → am_H → Prop} {l0 l1 l2 : Option Value} {x : Int32} : AW d 0 934 [l0, l1, l2, some (.int x)] S h Q = AW d 0 935 [l0, l1, l2, some (.int x)] (.int x :: S) h Q := AW_n cdn_L_law rfl rfl
set_option maxRecDepth 20000 in
theorem st_L_law_935 {d : Nat} {L : am_L} {S : List Value} {h : am_H} {Q : Option Value → am_H → Prop} : AW d 0 935 L S h Q = AW d 0 936 L (.int 1 :: S) h Q := AW_n cdn_L_law rfl rfl
set_option maxRecDepth 20000 in
theorem st_L_law_936 {d : Nat} {L : am_L} {S : List Value} {h : am_H} {Q : Option Value → am_H → Prop} {x y : Int32} : AW d 0 936 L (.int y :: .int x :: S) h Q = AW d 0 937 L (.int (x + y) :: S) h Q := AW_n cdn_L_law rfl rfl
set_option maxRecDepth 20000 in
theorem st_L_law_937 {d : Nat} {L : am_L} {S : List Value} {Q : Option Value → am_H → Prop} {c : List (Nat × Nat)} {a : Nat → Nat → Int32} {r : Nat → Nat → Option Nat} {i : Int32} {k : Nat} (ht : am_tag c k = 20) (hi : inb i (am_len c k)) : AW d 0 937 L (.int i :: .ref k :: S) (c, a, r) Q = AW d 0 938 L (.int (a k i.toNatClampNeg) :: S) (c, a, r) Q := AW_ald cdn_L_law rfl (by decide) ht hi
set_option maxRecDepth 20000 in
theorem st_L_law_938 {d : Nat} {L : am_L} {S : List Value} {h : am_H} {Q : Option Value → am_H → Prop} {x : Int32} : AW d 0 938 L (.int x :: S) h Q = AW d 0 939 L (.long x.toInt64 :: S) h Q := AW_n cdn_L_law rfl rfl
set_option maxRecDepth 20000 in
theorem st_L_law_939 {d : Nat} {L : am_L} {S : List Value} {h : am_H} {Q : Option Value → am_H → Prop} : AW d 0 939 L S h Q = AW d 0 941 L (.int 32 :: S) h Q := AW_n cdn_L_law rfl rfl
set_option maxRecDepth 20000 in
theorem st_L_law_941 {d : Nat} {L : am_L} {S : List Value} {h : am_H} {Q : Option Value → am_H → Prop} {x : Int64} {y : Int32} : AW d 0 941 L (.int y :: .long x :: S) h Q = AW d 0 942 L (.long (x <<< (y.toInt64 &&& 63)) :: S) h Q := AW_n cdn_L_law rfl rfl
set_option maxRecDepth 20000 in
theorem st_L_law_942 {d : Nat} {S : List Value} {h : am_H} {Q : Option Value → am_H → Prop} {l1 l2 l3 : Option Value} {x : Nat} : AW d 0 942 [some (.ref x), l1, l2, l3] S h Q = AW d 0 943 [some (.ref x), l1, l2, l3] (.ref x :: S) h Q := AW_n cdn_L_law rfl rfl
set_option maxRecDepth 20000 in
theorem st_L_law_943 {d : Nat} {S : List Value} {h : am_H} {Q : Option Value → am_H → Prop} {l0 l1 l2 : Option Value} {x : Int32} : AW d 0 943 [l0, l1, l2, some (.int x)] S h Q = AW d 0 944 [l0, l1, l2, some (.int x)] (.int x :: S) h Q := AW_n cdn_L_law rfl rfl
set_option maxRecDepth 20000 in
theorem st_L_law_944 {d : Nat} {L : am_L} {S : List Value} {h : am_H} {Q : Option Value → am_H → Prop} : AW d 0 944 L S h Q = AW d 0 945 L (.int 2 :: S) h Q := AW_n cdn_L_law rfl rfl
set_option maxRecDepth 20000 in
theorem st_L_law_945 {d : Nat} {L : am_L} {S : List Value} {h : am_H} {Q : Option Value → am_H → Prop} {x y : Int32} : AW d 0 945 L (.int y :: .int x :: S) h Q = AW d 0 946 L (.int (x + y) :: S) h Q := AW_n cdn_L_law rfl rfl
set_option maxRecDepth 20000 in
theorem st_L_law_946 {d : Nat} {L : am_L} {S : List Value} {Q : Option Value → am_H → Prop} {c : List (Nat × Nat)} {a : Nat → Nat → Int32} {r : Nat → Nat → Option Nat} {i : Int32} {k : Nat} (ht : am_tag c k = 20) (hi : inb i (am_len c k)) : AW d 0 946 L (.int i :: .ref k :: S) (c, a, r) Q = AW d 0 947 L (.int (a k i.toNatClampNeg) :: S) (c, a, r) Q := AW_ald cdn_L_law rfl (by decide) ht hi
set_option maxRecDepth 20000 in
theorem st_L_law_947 {d : Nat} {L : am_L} {S : List Value} {h : am_H} {Q : Option Value → am_H → Prop} {x : Int32} : AW d 0 947 L (.int x :: S) h Q = AW d 0 948 L (.long x.toInt64 :: S) h Q := AW_n cdn_L_law rfl rfl
set_option maxRecDepth 20000 in
theorem st_L_law_948 {d : Nat} {L : am_L} {S : List Value} {h : am_H} {Q : Option Value → am_H → Prop} : AW d 0 948 L S h Q = AW d 0 951 L (.long 4294967295 :: S) h Q := AW_n cdn_L_law rfl rfl
set_option maxRecDepth 20000 in
theorem st_L_law_951 {d : Nat} {L : am_L} {S : List Value} {h : am_H} {Q : Option Value → am_H → Prop} {x y : Int64} : AW d 0 951 L (.long y :: .long x :: S) h Q = AW d 0 952 L (.long (x &&& y) :: S) h Q := AW_n cdn_L_law rfl rfl
set_option maxRecDepth 20000 in
theorem st_L_law_952 {d : Nat} {L : am_L} {S : List Value} {h : am_H} {Q : Option Value → am_H → Prop} {x y : Int64} : AW d 0 952 L (.long y :: .long x :: S) h Q = AW d 0 953 L (.long (x ||| y) :: S) h Q := AW_n cdn_L_law rfl rfl
set_option maxRecDepth 20000 in
theorem st_L_law_953 {d : Nat} {S : List Value} {h : am_H} {Q : Option Value → am_H → Prop} {l1 l2 l3 : Option Value} {x : Nat} : AW d 0 953 [some (.ref x), l1, l2, l3] S h Q = AW d 0 954 [some (.ref x), l1, l2, l3] (.ref x :: S) h Q := AW_n cdn_L_law rfl rfl
set_option maxRecDepth 20000 in
theorem st_L_law_954 {d : Nat} {S : List Value} {h : am_H} {Q : Option Value → am_H → Prop} {l0 l1 l2 : Option Value} {x : Int32} : AW d 0 954 [l0, l1, l2, some (.int x)] S h Q = AW d 0 955 [l0, l1, l2, some (.int x)] (.int x :: S) h Q := AW_n cdn_L_law rfl rfl
set_option maxRecDepth 20000 in
theorem st_L_law_955 {d : Nat} {L : am_L} {S : List Value} {h : am_H} {Q : Option Value → am_H → Prop} : AW d 0 955 L S h Q = AW d 0 956 L (.int 3 :: S) h Q := AW_n cdn_L_law rfl rfl
set_option maxRecDepth 20000 in
theorem st_L_law_956 {d : Nat} {L : am_L} {S : List Value} {h : am_H} {Q : Option Value → am_H → Prop} {x y : Int32} : AW d 0 956 L (.int y :: .int x :: S) h Q = AW d 0 957 L (.int (x + y) :: S) h Q := AW_n cdn_L_law rfl rfl
set_option maxRecDepth 20000 in
theorem st_L_law_957 {d : Nat} {L : am_L} {S : List Value} {Q : Option Value → am_H → Prop} {c : List (Nat × Nat)} {a : Nat → Nat → Int32} {r : Nat → Nat → Option Nat} {i : Int32} {k : Nat} (ht : am_tag c k = 20) (hi : inb i (am_len c k)) : AW d 0 957 L (.int i :: .ref k :: S) (c, a, r) Q = AW d 0 958 L (.int (a k i.toNatClampNeg) :: S) (c, a, r) Q := AW_ald cdn_L_law rfl (by decide) ht hi
set_option maxRecDepth 20000 in
theorem st_L_law_958 {d : Nat} {L : am_L} {S : List Value} {Q : Option Value → am_H → Prop} {c : List (Nat × Nat)} {a : Nat → Nat → Int32} {r : Nat → Nat → Option Nat} {k : Nat} {w1 : Int64} {x2 : Int32} (ht : am_tag c k = 9) (hS : (S.map fun v => v.category).sum ≤ 8) : AW (d + 1) 0 958 L (.int x2 :: .long w1 :: .ref k :: S) (c, a, r) Q = CALL d 92 [.ref k, .long w1, .int x2] (c, a, r) (fun v h9 => AW (d + 1) 0 961 L (v.toList ++ S) h9 Q) := AW_invV (n := 2) (t := [.int x2, .long w1]) cdn_L_law rfl (by decide) (Nat.le_of_ble_eq_true rfl) rfl rfl ht hS
set_option maxRecDepth 20000 in
theorem st_L_law_961 {d : Nat} {S : List Value} {h : am_H} {Q : Option Value → am_H → Prop} {l0 l1 l3 : Option Value} {x : Nat} : AW d 0 961 [l0, l1, some (.ref x), l3] S h Q = AW d 0 962 [l0, l1, some (.ref x), l3] (.ref x :: S) h Q := AW_n cdn_L_law rfl rfl
set_option maxRecDepth 20000 in
theorem st_L_law_962 {d : Nat} {S : List Value} {h : am_H} {Q : Option Value → am_H → Prop} {l1 l2 l3 : Option Value} {x : Nat} : AW d 0 962 [some (.ref x), l1, l2, l3] S h Q = AW d 0 963 [some (.ref x), l1, l2, l3] (.ref x :: S) h Q := AW_n cdn_L_law rfl rfl
set_option maxRecDepth 20000 in
theorem st_L_law_963 {d : Nat} {S : List Value} {h : am_H} {Q : Option Value → am_H → Prop} {l0 l1 l2 : Option Value} {x : Int32} : AW d 0 963 [l0, l1, l2, some (.int x)] S h Q = AW d 0 964 [l0, l1, l2, some (.int x)] (.int x :: S) h Q := AW_n cdn_L_law rfl rfl
set_option maxRecDepth 20000 in
theorem st_L_law_964 {d : Nat} {L : am_L} {S : List Value} {h : am_H} {Q : Option Value → am_H → Prop} : AW d 0 964 L S h Q = AW d 0 965 L (.int 1 :: S) h Q := AW_n cdn_L_law rfl rfl
set_option maxRecDepth 20000 in
theorem st_L_law_965 {d : Nat} {L : am_L} {S : List Value} {h : am_H} {Q : Option Value → am_H → Prop} {x y : Int32} : AW d 0 965 L (.int y :: .int x :: S) h Q = AW d 0 966 L (.int (x + y) :: S) h Q := AW_n cdn_L_law rfl rfl
set_option maxRecDepth 20000 in
theorem st_L_law_966 {d : Nat} {L : am_L} {S : List Value} {Q : Option Value → am_H → Prop} {c : List (Nat × Nat)} {a : Nat → Nat → Int32} {r : Nat → Nat → Option Nat} {i : Int32} {k : Nat} (ht : am_tag c k = 20) (hi : inb i (am_len c k)) : AW d 0 966 L (.int i :: .ref k :: S) (c, a, r) Q = AW d 0 967 L (.int (a k i.toNatClampNeg) :: S) (c, a, r) Q := AW_ald cdn_L_law rfl (by decide) ht hi
set_option maxRecDepth 20000 in
theorem st_L_law_967 {d : Nat} {L : am_L} {S : List Value} {h : am_H} {Q : Option Value → am_H → Prop} {x : Int32} : AW d 0 967 L (.int x :: S) h Q = AW d 0 968 L (.long x.toInt64 :: S) h Q := AW_n cdn_L_law rfl rfl
set_option maxRecDepth 20000 in
theorem st_L_law_968 {d : Nat} {L : am_L} {S : List Value} {h : am_H} {Q : Option Value → am_H → Prop} : AW d 0 968 L S h Q = AW d 0 970 L (.int 32 :: S) h Q := AW_n cdn_L_law rfl rfl
set_option maxRecDepth 20000 in
theorem st_L_law_970 {d : Nat} {L : am_L} {S : List Value} {h : am_H} {Q : Option Value → am_H → Prop} {x : Int64} {y : Int32} : AW d 0 970 L (.int y :: .long x :: S) h Q = AW d 0 971 L (.long (x <<< (y.toInt64 &&& 63)) :: S) h Q := AW_n cdn_L_law rfl rfl
set_option maxRecDepth 20000 in
theorem st_L_law_971 {d : Nat} {S : List Value} {h : am_H} {Q : Option Value → am_H → Prop} {l1 l2 l3 : Option Value} {x : Nat} : AW d 0 971 [some (.ref x), l1, l2, l3] S h Q = AW d 0 972 [some (.ref x), l1, l2, l3] (.ref x :: S) h Q := AW_n cdn_L_law rfl rfl
set_option maxRecDepth 20000 in
theorem st_L_law_972 {d : Nat} {S : List Value} {h : am_H} {Q : Option Value → am_H → Prop} {l0 l1 l2 : Option Value} {x : Int32} : AW d 0 972 [l0, l1, l2, some (.int x)] S h Q = AW d 0 973 [l0, l1, l2, some (.int x)] (.int x :: S) h Q := AW_n cdn_L_law rfl rfl
set_option maxRecDepth 20000 in
theorem st_L_law_973 {d : Nat} {L : am_L} {S : List Value} {h : am_H} {Q : Option Value → am_H → Prop} : AW d 0 973 L S h Q = AW d 0 974 L (.int 2 :: S) h Q := AW_n cdn_L_law rfl rfl
set_option maxRecDepth 20000 in
theorem st_L_law_974 {d : Nat} {L : am_L} {S : List Value} {h : am_H} {Q : Option Value → am_H → Prop} {x y : Int32} : AW d 0 974 L (.int y :: .int x :: S) h Q = AW d 0 975 L (.int (x + y) :: S) h Q := AW_n cdn_L_law rfl rfl
set_option maxRecDepth 20000 in
theorem st_L_law_975 {d : Nat} {L : am_L} {S : List Value} {Q : Option Value → am_H → Prop} {c : List (Nat × Nat)} {a : Nat → Nat → Int32} {r : Nat → Nat → Option Nat} {i : Int32} {k : Nat} (ht : am_tag c k = 20) (hi : inb i (am_len c k)) : AW d 0 975 L (.int i :: .ref k :: S) (c, a, r) Q = AW d 0 976 L (.int (a k i.toNatClampNeg) :: S) (c, a, r) Q := AW_ald cdn_L_law rfl (by decide) ht hi
set_option maxRecDepth 20000 in
theorem st_L_law_976 {d : Nat} {L : am_L} {S : List Value} {h : am_H} {Q : Option Value → am_H → Prop} {x : Int32} : AW d 0 976 L (.int x :: S) h Q = AW d 0 977 L (.long x.toInt64 :: S) h Q := AW_n cdn_L_law rfl rfl
set_option maxRecDepth 20000 in
theorem st_L_law_977 {d : Nat} {L : am_L} {S : List Value} {h : am_H} {Q : Option Value → am_H → Prop} : AW d 0 977 L S h Q = AW d 0 980 L (.long 4294967295 :: S) h Q := AW_n cdn_L_law rfl rfl
set_option maxRecDepth 20000 in
theorem st_L_law_980 {d : Nat} {L : am_L} {S : List Value} {h : am_H} {Q : Option Value → am_H → Prop} {x y : Int64} : AW d 0 980 L (.long y :: .long x :: S) h Q = AW d 0 981 L (.long (x &&& y) :: S) h Q := AW_n cdn_L_law rfl rfl
set_option maxRecDepth 20000 in
theorem st_L_law_981 {d : Nat} {L : am_L} {S : List Value} {h : am_H} {Q : Option Value → am_H → Prop} {x y : Int64} : AW d 0 981 L (.long y :: .long x :: S) h Q = AW d 0 982 L (.long (x ||| y) :: S) h Q := AW_n cdn_L_law rfl rfl
set_option maxRecDepth 20000 in
theorem st_L_law_982 {d : Nat} {S : List Value} {h : am_H} {Q : Option Value → am_H → Prop} {l1 l2 l3 : Option Value} {x : Nat} : AW d 0 982 [some (.ref x), l1, l2, l3] S h Q = AW d 0 983 [some (.ref x), l1, l2, l3] (.ref x :: S) h Q := AW_n cdn_L_law rfl rfl
set_option maxRecDepth 20000 in
theorem st_L_law_983 {d : Nat} {S : List Value} {h : am_H} {Q : Option Value → am_H → Prop} {l0 l1 l2 : Option Value} {x : Int32} : AW d 0 983 [l0, l1, l2, some (.int x)] S h Q = AW d 0 984 [l0, l1, l2, some (.int x)] (.int x :: S) h Q := AW_n cdn_L_law rfl rfl
set_option maxRecDepth 20000 in
theorem st_L_law_984 {d : Nat} {L : am_L} {S : List Value} {h : am_H} {Q : Option Value → am_H → Prop} : AW d 0 984 L S h Q = AW d 0 985 L (.int 3 :: S) h Q := AW_n cdn_L_law rfl rfl
set_option maxRecDepth 20000 in
theorem st_L_law_985 {d : Nat} {L : am_L} {S : List Value} {h : am_H} {Q : Option Value → am_H → Prop} {x y : Int32} : AW d 0 985 L (.int y :: .int x :: S) h Q = AW d 0 986 L (.int (x + y) :: S) h Q := AW_n cdn_L_law rfl rfl
set_option maxRecDepth 20000 in
theorem st_L_law_986 {d : Nat} {L : am_L} {S : List Value} {Q : Option Value → am_H → Prop} {c : List (Nat × Nat)} {a : Nat → Nat → Int32} {r : Nat → Nat → Option Nat} {i : Int32} {k : Nat} (ht : am_tag c k = 20) (hi : inb i (am_len c k)) : AW d 0 986 L (.int i :: .ref k :: S) (c, a, r) Q = AW d 0 987 L (.int (a k i.toNatClampNeg) :: S) (c, a, r) Q := AW_ald cdn_L_law rfl (by decide) ht hi
set_option maxRecDepth 20000 in
theorem st_L_law_987 {d : Nat} {L : am_L} {S : List Value} {Q : Option Value → am_H → Prop} {c : List (Nat × Nat)} {a : Nat → Nat → Int32} {r : Nat → Nat → Option Nat} {k : Nat} {w1 : Int64} {x2 : Int32} (ht : am_tag c k = 10) (hS : (S.map fun v => v.category).sum ≤ 8) : AW (d + 1) 0 987 L (.int x2 :: .long w1 :: .ref k :: S) (c, a, r) Q = CALL d 169 [.ref k, .long w1, .int x2] (c, a, r) (fun v h9 => AW (d + 1) 0 990 L (v.toList ++ S) h9 Q) := AW_invV (n := 2) (t := [.int x2, .long w1]) cdn_L_law rfl (by decide) (Nat.le_of_ble_eq_true rfl) rfl rfl ht hS
set_option maxRecDepth 20000 in
theorem st_L_law_990 {d : Nat} {L : am_L} {S : List Value} {h : am_H} {Q : Option Value → am_H → Prop} {x y : Int32} : AW d 0 990 L (.int y :: .int x :: S) h Q = if x = y then AW d 0 1579 L S h Q else AW d 0 993 L S h Q := AW_if cdn_L_law rfl rfl
set_option maxRecDepth 20000 in
theorem st_L_law_993 {d : Nat} {L : am_L} {S : List Value} {h : am_H} {Q : Option Value → am_H → Prop} : AW d 0 993 L S h Q = AW d 0 994 L (.int 0 :: S) h Q := AW_n cdn_L_law rfl rfl
set_option maxRecDepth 20000 in
theorem st_L_law_994 {d : Nat} {L : am_L} {h : am_H} {Q : Option Value → am_H → Prop} {x : Int32} (hx : x = 0 ∨ x = 1) : AW d 0 994 L [.int x] h Q = Q (some (.int x)) h := AW_zret cdn_L_law rfl hx
set_option maxRecDepth 20000 in
theorem st_L_law_995 {d : Nat} {S : List Value} {h : am_H} {Q : Option Value → am_H → Prop} {l0 l2 l3 : Option Value} {x : Nat} : AW d 0 995 [l0, some (.ref x), l2, l3] S h Q = AW d 0 996 [l0, some (.ref x), l2, l3] (.ref x :: S) h Q := AW_n cdn_L_law rfl rfl
set_option maxRecDepth 20000 in
theorem st_L_law_996 {d : Nat} {L : am_L} {S : List Value} {Q : Option Value → am_H → Prop} {c : List (Nat × Nat)} {a : Nat → Nat → Int32} {r : Nat → Nat → Option Nat} {k : Nat}  (ht : am_tag c k = 9) (hS : (S.map fun v => v.category).sum ≤ 8) : AW (d + 1) 0 996 L (.ref k :: S) (c, a, r) Q = CALL d 93 [.ref k] (c, a, r) (fun v h9 => AW (d + 1) 0 999 L (v.toList ++ S) h9 Q) := AW_invV (n := 0) (t := []) cdn_L_law rfl (by decide) (Nat.le_of_ble_eq_true rfl) rfl rfl ht hS
set_option maxRecDepth 20000 in
theorem st_L_law_999 {d : Nat} {S : List Value} {h : am_H} {Q : Option Value → am_H → Prop} {l0 l1 l3 : Option Value} {x : Nat} : AW d 0 999 [l0, l1, some (.ref x), l3] S h Q = AW d 0 1000 [l0, l1, some (.ref x), l3] (.ref x :: S) h Q := AW_n cdn_L_law rfl rfl
set_option maxRecDepth 20000 in
theorem st_L_law_1000 {d : Nat} {L : am_L} {S : List Value} {Q : Option Value → am_H → Prop} {c : List (Nat × Nat)} {a : Nat → Nat → Int32} {r : Nat → Nat → Option Nat} {k : Nat}  (ht : am_tag c k = 10) (hS : (S.map fun v => v.category).sum ≤ 8) : AW (d + 1) 0 1000 L (.ref k :: S) (c, a, r) Q = CALL d 176 [.ref k] (c, a, r) (fun v h9 => AW (d + 1) 0 1003 L (v.toList ++ S) h9 Q) := AW_invV (n := 0) (t := []) cdn_L_law rfl (by decide) (Nat.le_of_ble_eq_true rfl) rfl rfl ht hS
set_option maxRecDepth 20000 in
theorem st_L_law_1003 {d : Nat} {L : am_L} {S : List Value} {h : am_H} {Q : Option Value → am_H → Prop} {x y : Int32} : AW d 0 1003 L (.int y :: .int x :: S) h Q = if x = y then AW d 0 1579 L S h Q else AW d 0 1006 L S h Q := AW_if cdn_L_law rfl rfl
set_option maxRecDepth 20000 in
theorem st_L_law_1006 {d : Nat} {L : am_L} {S : List Value} {h : am_H} {Q : Option Value → am_H → Prop} : AW d 0 1006 L S h Q = AW d 0 1007 L (.int 0 :: S) h Q := AW_n cdn_L_law rfl rfl
set_option maxRecDepth 20000 in
theorem st_L_law_1007 {d : Nat} {L : am_L} {h : am_H} {Q : Option Value → am_H → Prop} {x : Int32} (hx : x = 0 ∨ x = 1) : AW d 0 1007 L [.int x] h Q = Q (some (.int x)) h := AW_zret cdn_L_law rfl hx
set_option maxRecDepth 20000 in
theorem st_L_law_1008 {d : Nat} {S : List Value} {h : am_H} {Q : Option Value → am_H → Prop} {l0 l2 l3 : Option Value} {x : Nat} : AW d 0 1008 [l0, some (.ref x), l2, l3] S h Q = AW d 0 1009 [l0, some (.ref x), l2, l3] (.ref x :: S) h Q := AW_n cdn_L_law rfl rfl
set_option maxRecDepth 20000 in
theorem st_L_law_1009 {d : Nat} {S : List Value} {h : am_H} {Q : Option Value → am_H → Prop} {l1 l2 l3 : Option Value} {x : Nat} : AW d 0 1009 [some (.ref x), l1, l2, l3] S h Q = AW d 0 1010 [some (.ref x), l1, l2, l3] (.ref x :: S) h Q := AW_n cdn_L_law rfl rfl
set_option maxRecDepth 20000 in
theorem st_L_law_1010 {d : Nat} {S : List Value} {h : am_H} {Q : Option Value → am_H → Prop} {l0 l1 l2 : Option Value} {x : Int32} : AW d 0 1010 [l0, l1, l2, some (.int x)] S h Q = AW d 0 1011 [l0, l1, l2, some (.int x)] (.int x :: S) h Q := AW_n cdn_L_law rfl rfl
set_option maxRecDepth 20000 in
theorem st_L_law_1011 {d : Nat} {L : am_L} {S : List Value} {h : am_H} {Q : Option Value → am_H → Prop} : AW d 0 1011 L S h Q = AW d 0 1012 L (.int 1 :: S) h Q := AW_n cdn_L_law rfl rfl
set_option maxRecDepth 20000 in
theorem st_L_law_1012 {d : Nat} {L : am_L} {S : List Value} {h : am_H} {Q : Option Value → am_H → Prop} {x y : Int32} : AW d 0 1012 L (.int y :: .int x :: S) h Q = AW d 0 1013 L (.int (x + y) :: S) h Q := AW_n cdn_L_law rfl rfl
set_option maxRecDepth 20000 in
theorem st_L_law_1013 {d : Nat} {L : am_L} {S : List Value} {Q : Option Value → am_H → Prop} {c : List (Nat × Nat)} {a : Nat → Nat → Int32} {r : Nat → Nat → Option Nat} {i : Int32} {k : Nat} (ht : am_tag c k = 20) (hi : inb i (am_len c k)) : AW d 0 1013 L (.int i :: .ref k :: S) (c, a, r) Q = AW d 0 1014 L (.int (a k i.toNatClampNeg) :: S) (c, a, r) Q := AW_ald cdn_L_law rfl (by decide) ht hi
set_option maxRecDepth 20000 in
theorem st_L_law_1014 {d : Nat} {S : List Value} {h : am_H} {Q : Option Value → am_H → Prop} {l1 l2 l3 : Option Value} {x : Nat} : AW d 0 1014 [some (.ref x), l1, l2, l3] S h Q = AW d 0 1015 [some (.ref x), l1, l2, l3] (.ref x :: S) h Q := AW_n cdn_L_law rfl rfl
set_option maxRecDepth 20000 in
theorem st_L_law_1015 {d : Nat} {S : List Value} {h : am_H} {Q : Option Value → am_H → Prop} {l0 l1 l2 : Option Value} {x : Int32} : AW d 0 1015 [l0, l1, l2, some (.int x)] S h Q = AW d 0 1016 [l0, l1, l2, some (.int x)] (.int x :: S) h Q := AW_n cdn_L_law rfl rfl
set_option maxRecDepth 20000 in
theorem st_L_law_1016 {d : Nat} {L : am_L} {S : List Value} {h : am_H} {Q : Option Value → am_H → Prop} : AW d 0 1016 L S h Q = AW d 0 1017 L (.int 2 :: S) h Q := AW_n cdn_L_law rfl rfl
set_option maxRecDepth 20000 in
theorem st_L_law_1017 {d : Nat} {L : am_L} {S : List Value} {h : am_H} {Q : Option Value → am_H → Prop} {x y : Int32} : AW d 0 1017 L (.int y :: .int x :: S) h Q = AW d 0 1018 L (.int (x + y) :: S) h Q := AW_n cdn_L_law rfl rfl
set_option maxRecDepth 20000 in
theorem st_L_law_1018 {d : Nat} {L : am_L} {S : List Value} {Q : Option Value → am_H → Prop} {c : List (Nat × Nat)} {a : Nat → Nat → Int32} {r : Nat → Nat → Option Nat} {i : Int32} {k : Nat} (ht : am_tag c k = 20) (hi : inb i (am_len c k)) : AW d 0 1018 L (.int i :: .ref k :: S) (c, a, r) Q = AW d 0 1019 L (.int (a k i.toNatClampNeg) :: S) (c, a, r) Q := AW_ald cdn_L_law rfl (by decide) ht hi
set_option maxRecDepth 20000 in
theorem st_L_law_1019 {d : Nat} {L : am_L} {S : List Value} {Q : Option Value → am_H → Prop} {c : List (Nat × Nat)} {a : Nat → Nat → Int32} {r : Nat → Nat → Option Nat} {k : Nat} {x1 : Int32} {x2 : Int32} (ht : am_tag c k = 9) (hS : (S.map fun v => v.category).sum ≤ 8) : AW (d + 1) 0 1019 L (.int x2 :: .int x1 :: .ref k :: S) (c, a, r) Q = CALL d 94 [.ref k, .int x1, .int x2] (c, a, r) (fun v h9 => AW (d + 1) 0 1022 L (v.toList ++ S) h9 Q) := AW_invV (n := 2) (t := [.int x2, .int x1]) cdn_L_law rfl (by decide) (Nat.le_of_ble_eq_true rfl) rfl rfl ht hS
set_option maxRecDepth 20000 in
theorem st_L_law_1022 {d : Nat} {S : List Value} {h : am_H} {Q : Option Value → am_H → Prop} {l0 l1 l3 : Option Value} {x : Nat} : AW d 0 1022 [l0, l1, some (.ref x), l3] S h Q = AW d 0 1023 [l0, l1, some (.ref x), l3] (.ref x :: S) h Q := AW_n cdn_L_law rfl rfl
set_option maxRecDepth 20000 in
theorem st_L_law_1023 {d : Nat} {S : List Value} {h : am_H} {Q : Option Value → am_H → Prop} {l1 l2 l3 : Option Value} {x : Nat} : AW d 0 1023 [some (.ref x), l1, l2, l3] S h Q = AW d 0 1024 [some (.ref x), l1, l2, l3] (.ref x :: S) h Q := AW_n cdn_L_law rfl rfl
set_option maxRecDepth 20000 in
theorem st_L_law_1024 {d : Nat} {S : List Value} {h : am_H} {Q : Option Value → am_H → Prop} {l0 l1 l2 : Option Value} {x : Int32} : AW d 0 1024 [l0, l1, l2, some (.int x)] S h Q = AW d 0 1025 [l0, l1, l2, some (.int x)] (.int x :: S) h Q := AW_n cdn_L_law rfl rfl
set_option maxRecDepth 20000 in
theorem st_L_law_1025 {d : Nat} {L : am_L} {S : List Value} {h : am_H} {Q : Option Value → am_H → Prop} : AW d 0 1025 L S h Q = AW d 0 1026 L (.int 1 :: S) h Q := AW_n cdn_L_law rfl rfl
set_option maxRecDepth 20000 in
theorem st_L_law_1026 {d : Nat} {L : am_L} {S : List Value} {h : am_H} {Q : Option Value → am_H → Prop} {x y : Int32} : AW d 0 1026 L (.int y :: .int x :: S) h Q = AW d 0 1027 L (.int (x + y) :: S) h Q := AW_n cdn_L_law rfl rfl
set_option maxRecDepth 20000 in
theorem st_L_law_1027 {d : Nat} {L : am_L} {S : List Value} {Q : Option Value → am_H → Prop} {c : List (Nat × Nat)} {a : Nat → Nat → Int32} {r : Nat → Nat → Option Nat} {i : Int32} {k : Nat} (ht : am_tag c k = 20) (hi : inb i (am_len c k)) : AW d 0 1027 L (.int i :: .ref k :: S) (c, a, r) Q = AW d 0 1028 L (.int (a k i.toNatClampNeg) :: S) (c, a, r) Q := AW_ald cdn_L_law rfl (by decide) ht hi
set_option maxRecDepth 20000 in
theorem st_L_law_1028 {d : Nat} {S : List Value} {h : am_H} {Q : Option Value → am_H → Prop} {l1 l2 l3 : Option Value} {x : Nat} : AW d 0 1028 [some (.ref x), l1, l2, l3] S h Q = AW d 0 1029 [some (.ref x), l1, l2, l3] (.ref x :: S) h Q := AW_n cdn_L_law rfl rfl
set_option maxRecDepth 20000 in
theorem st_L_law_1029 {d : Nat} {S : List Value} {h : am_H} {Q : Option Value → am_H → Prop} {l0 l1 l2 : Option Value} {x : Int32} : AW d 0 1029 [l0, l1, l2, some (.int x)] S h Q = AW d 0 1030 [l0, l1, l2, some (.int x)] (.int x :: S) h Q := AW_n cdn_L_law rfl rfl
set_option maxRecDepth 20000 in
theorem st_L_law_1030 {d : Nat} {L : am_L} {S : List Value} {h : am_H} {Q : Option Value → am_H → Prop} : AW d 0 1030 L S h Q = AW d 0 1031 L (.int 2 :: S) h Q := AW_n cdn_L_law rfl rfl
set_option maxRecDepth 20000 in
theorem st_L_law_1031 {d : Nat} {L : am_L} {S : List Value} {h : am_H} {Q : Option Value → am_H → Prop} {x y : Int32} : AW d 0 1031 L (.int y :: .int x :: S) h Q = AW d 0 1032 L (.int (x + y) :: S) h Q := AW_n cdn_L_law rfl rfl
set_option maxRecDepth 20000 in
theorem st_L_law_1032 {d : Nat} {L : am_L} {S : List Value} {Q : Option Value → am_H → Prop} {c : List (Nat × Nat)} {a : Nat → Nat → Int32} {r : Nat → Nat → Option Nat} {i : Int32} {k : Nat} (ht : am_tag c k = 20) (hi : inb i (am_len c k)) : AW d 0 1032 L (.int i :: .ref k :: S) (c, a, r) Q = AW d 0 1033 L (.int (a k i.toNatClampNeg) :: S) (c, a, r) Q := AW_ald cdn_L_law rfl (by decide) ht hi
set_option maxRecDepth 20000 in
theorem st_L_law_1033 {d : Nat} {L : am_L} {S : List Value} {Q : Option Value → am_H → Prop} {c : List (Nat × Nat)} {a : Nat → Nat → Int32} {r : Nat → Nat → Option Nat} {k : Nat} {x1 : Int32} {x2 : Int32} (ht : am_tag c k = 10) (hS : (S.map fun v => v.category).sum ≤ 8) : AW (d + 1) 0 1033 L (.int x2 :: .int x1 :: .ref k :: S) (c, a, r) Q = CALL d 177 [.ref k, .int x1, .int x2] (c, a, r) (fun v h9 => AW (d + 1) 0 1036 L (v.toList ++ S) h9 Q) := AW_invV (n := 2) (t := [.int x2, .int x1]) cdn_L_law rfl (by decide) (Nat.le_of_ble_eq_true rfl) rfl rfl ht hS
set_option maxRecDepth 20000 in
theorem st_L_law_1036 {d : Nat} {L : am_L} {S : List Value} {h : am_H} {Q : Option Value → am_H → Prop} {x y : Int32} : AW d 0 1036 L (.int y :: .int x :: S) h Q = if x = y then AW d 0 1579 L S h Q else AW d 0 1039 L S h Q := AW_if cdn_L_law rfl rfl
set_option maxRecDepth 20000 in
theorem st_L_law_1039 {d : Nat} {L : am_L} {S : List Value} {h : am_H} {Q : Option Value → am_H → Prop} : AW d 0 1039 L S h Q = AW d 0 1040 L (.int 0 :: S) h Q := AW_n cdn_L_law rfl rfl
set_option maxRecDepth 20000 in
theorem st_L_law_1040 {d : Nat} {L : am_L} {h : am_H} {Q : Option Value → am_H → Prop} {x : Int32} (hx : x = 0 ∨ x = 1) : AW d 0 1040 L [.int x] h Q = Q (some (.int x)) h := AW_zret cdn_L_law rfl hx
set_option maxRecDepth 20000 in
theorem st_L_law_1041 {d : Nat} {S : List Value} {h : am_H} {Q : Option Value → am_H → Prop} {l0 l2 l3 : Option Value} {x : Nat} : AW d 0 1041 [l0, some (.ref x), l2, l3] S h Q = AW d 0 1042 [l0, some (.ref x), l2, l3] (.ref x :: S) h Q := AW_n cdn_L_law rfl rfl
set_option maxRecDepth 20000 in
theorem st_L_law_1042 {d : Nat} {S : List Value} {h : am_H} {Q : Option Value → am_H → Prop} {l1 l2 l3 : Option Value} {x : Nat} : AW d 0 1042 [some (.ref x), l1, l2, l3] S h Q = AW d 0 1043 [some (.ref x), l1, l2, l3] (.ref x :: S) h Q := AW_n cdn_L_law rfl rfl
set_option maxRecDepth 20000 in
theorem st_L_law_1043 {d : Nat} {S : List Value} {h : am_H} {Q : Option Value → am_H → Prop} {l0 l1 l2 : Option Value} {x : Int32} : AW d 0 1043 [l0, l1, l2, some (.int x)] S h Q = AW d 0 1044 [l0, l1, l2, some (.int x)] (.int x :: S) h Q := AW_n cdn_L_law rfl rfl
set_option maxRecDepth 20000 in
theorem st_L_law_1044 {d : Nat} {L : am_L} {S : List Value} {h : am_H} {Q : Option Value → am_H → Prop} : AW d 0 1044 L S h Q = AW d 0 1045 L (.int 1 :: S) h Q := AW_n cdn_L_law rfl rfl
set_option maxRecDepth 20000 in
theorem st_L_law_1045 {d : Nat} {L : am_L} {S : List Value} {h : am_H} {Q : Option Value → am_H → Prop} {x y : Int32} : AW d 0 1045 L (.int y :: .int x :: S) h Q = AW d 0 1046 L (.int (x + y) :: S) h Q := AW_n cdn_L_law rfl rfl
set_option maxRecDepth 20000 in
theorem st_L_law_1046 {d : Nat} {L : am_L} {S : List Value} {Q : Option Value → am_H → Prop} {c : List (Nat × Nat)} {a : Nat → Nat → Int32} {r : Nat → Nat → Option Nat} {i : Int32} {k : Nat} (ht : am_tag c k = 20) (hi : inb i (am_len c k)) : AW d 0 1046 L (.int i :: .ref k :: S) (c, a, r) Q = AW d 0 1047 L (.int (a k i.toNatClampNeg) :: S) (c, a, r) Q := AW_ald cdn_L_law rfl (by decide) ht hi
set_option maxRecDepth 20000 in
theorem st_L_law_1047 {d : Nat} {L : am_L} {S : List Value} {Q : Option Value → am_H → Prop} {c : List (Nat × Nat)} {a : Nat → Nat → Int32} {r : Nat → Nat → Option Nat} {k : Nat} {x1 : Int32} (ht : am_tag c k = 9) (hS : (S.map fun v => v.category).sum ≤ 8) : AW (d + 1) 0 1047 L (.int x1 :: .ref k :: S) (c, a, r) Q = CALL d 95 [.ref k, .int x1] (c, a, r) (fun v h9 => AW (d + 1) 0 1050 L (v.toList ++ S) h9 Q) := AW_invV (n := 1) (t := [.int x1]) cdn_L_law rfl (by decide) (Nat.le_of_ble_eq_true rfl) rfl rfl ht hS
set_option maxRecDepth 20000 in
theorem st_L_law_1050 {d : Nat} {S : List Value} {h : am_H} {Q : Option Value → am_H → Prop} {l0 l1 l3 : Option Value} {x : Nat} : AW d 0 1050 [l0, l1, some (.ref x), l3] S h Q = AW d 0 1051 [l0, l1, some (.ref x), l3] (.ref x :: S) h Q := AW_n cdn_L_law rfl rfl
set_option maxRecDepth 20000 in
theorem st_L_law_1051 {d : Nat} {S : List Value} {h : am_H} {Q : Option Value → am_H → Prop} {l1 l2 l3 : Option Value} {x : Nat} : AW d 0 1051 [some (.ref x), l1, l2, l3] S h Q = AW d 0 1052 [some (.ref x), l1, l2, l3] (.ref x :: S) h Q := AW_n cdn_L_law rfl rfl
set_option maxRecDepth 20000 in
theorem st_L_law_1052 {d : Nat} {S : List Value} {h : am_H} {Q : Option Value → am_H → Prop} {l0 l1 l2 : Option Value} {x : Int32} : AW d 0 1052 [l0, l1, l2, some (.int x)] S h Q = AW d 0 1053 [l0, l1, l2, some (.int x)] (.int x :: S) h Q := AW_n cdn_L_law rfl rfl
set_option maxRecDepth 20000 in
theorem st_L_law_1053 {d : Nat} {L : am_L} {S : List Value} {h : am_H} {Q : Option Value → am_H → Prop} : AW d 0 1053 L S h Q = AW d 0 1054 L (.int 1 :: S) h Q := AW_n cdn_L_law rfl rfl
set_option maxRecDepth 20000 in
theorem st_L_law_1054 {d : Nat} {L : am_L} {S : List Value} {h : am_H} {Q : Option Value → am_H → Prop} {x y : Int32} : AW d 0 1054 L (.int y :: .int x :: S) h Q = AW d 0 1055 L (.int (x + y) :: S) h Q := AW_n cdn_L_law rfl rfl
set_option maxRecDepth 20000 in
theorem st_L_law_1055 {d : Nat} {L : am_L} {S : List Value} {Q : Option Value → am_H → Prop} {c : List (Nat × Nat)} {a : Nat → Nat → Int32} {r : Nat → Nat → Option Nat} {i : Int32} {k : Nat} (ht : am_tag c k = 20) (hi : inb i (am_len c k)) : AW d 0 1055 L (.int i :: .ref k :: S) (c, a, r) Q = AW d 0 1056 L (.int (a k i.toNatClampNeg) :: S) (c, a, r) Q := AW_ald cdn_L_law rfl (by decide) ht hi
set_option maxRecDepth 20000 in
theorem st_L_law_1056 {d : Nat} {L : am_L} {S : List Value} {Q : Option Value → am_H → Prop} {c : List (Nat × Nat)} {a : Nat → Nat → Int32} {r : Nat → Nat → Option Nat} {k : Nat} {x1 : Int32} (ht : am_tag c k = 10) (hS : (S.map fun v => v.category).sum ≤ 8) : AW (d + 1) 0 1056 L (.int x1 :: .ref k :: S) (c, a, r) Q = CALL d 181 [.ref k, .int x1] (c, a, r) (fun v h9 => AW (d + 1) 0 1059 L (v.toList ++ S) h9 Q) := AW_invV (n := 1) (t := [.int x1]) cdn_L_law rfl (by decide) (Nat.le_of_ble_eq_true rfl) rfl rfl ht hS
set_option maxRecDepth 20000 in
theorem st_L_law_1059 {d : Nat} {L : am_L} {S : List Value} {h : am_H} {Q : Option Value → am_H → Prop} {x y : Int32} : AW d 0 1059 L (.int y :: .int x :: S) h Q = if x = y then AW d 0 1579 L S h Q else AW d 0 1062 L S h Q := AW_if cdn_L_law rfl rfl
set_option maxRecDepth 20000 in
theorem st_L_law_1062 {d : Nat} {L : am_L} {S : List Value} {h : am_H} {Q : Option Value → am_H → Prop} : AW d 0 1062 L S h Q = AW d 0 1063 L (.int 0 :: S) h Q := AW_n cdn_L_law rfl rfl
set_option maxRecDepth 20000 in
theorem st_L_law_1063 {d : Nat} {L : am_L} {h : am_H} {Q : Option Value → am_H → Prop} {x : Int32} (hx : x = 0 ∨ x = 1) : AW d 0 1063 L [.int x] h Q = Q (some (.int x)) h := AW_zret cdn_L_law rfl hx
set_option maxRecDepth 20000 in
theorem st_L_law_1064 {d : Nat} {S : List Value} {h : am_H} {Q : Option Value → am_H → Prop} {l0 l2 l3 : Option Value} {x : Nat} : AW d 0 1064 [l0, some (.ref x), l2, l3] S h Q = AW d 0 1065 [l0, some (.ref x), l2, l3] (.ref x :: S) h Q := AW_n cdn_L_law rfl rfl
set_option maxRecDepth 20000 in
theorem st_L_law_1065 {d : Nat} {S : List Value} {h : am_H} {Q : Option Value → am_H → Prop} {l1 l2 l3 : Option Value} {x : Nat} : AW d 0 1065 [some (.ref x), l1, l2, l3] S h Q = AW d 0 1066 [some (.ref x), l1, l2, l3] (.ref x :: S) h Q := AW_n cdn_L_law rfl rfl
set_option maxRecDepth 20000 in
theorem st_L_law_1066 {d : Nat} {S : List Value} {h : am_H} {Q : Option Value → am_H → Prop} {l0 l1 l2 : Option Value} {x : Int32} : AW d 0 1066 [l0, l1, l2, some (.int x)] S h Q = AW d 0 1067 [l0, l1, l2, some (.int x)] (.int x :: S) h Q := AW_n cdn_L_law rfl rfl
set_option maxRecDepth 20000 in
theorem st_L_law_1067 {d : Nat} {L : am_L} {S : List Value} {h : am_H} {Q : Option Value → am_H → Prop} : AW d 0 1067 L S h Q = AW d 0 1068 L (.int 1 :: S) h Q := AW_n cdn_L_law rfl rfl
set_option maxRecDepth 20000 in
theorem st_L_law_1068 {d : Nat} {L : am_L} {S : List Value} {h : am_H} {Q : Option Value → am_H → Prop} {x y : Int32} : AW d 0 1068 L (.int y :: .int x :: S) h Q = AW d 0 1069 L (.int (x + y) :: S) h Q := AW_n cdn_L_law rfl rfl
set_option maxRecDepth 20000 in
theorem st_L_law_1069 {d : Nat} {L : am_L} {S : List Value} {Q : Option Value → am_H → Prop} {c : List (Nat × Nat)} {a : Nat → Nat → Int32} {r : Nat → Nat → Option Nat} {i : Int32} {k : Nat} (ht : am_tag c k = 20) (hi : inb i (am_len c k)) : AW d 0 1069 L (.int i :: .ref k :: S) (c, a, r) Q = AW d 0 1070 L (.int (a k i.toNatClampNeg) :: S) (c, a, r) Q := AW_ald cdn_L_law rfl (by decide) ht hi
set_option maxRecDepth 20000 in
theorem st_L_law_1070 {d : Nat} {S : List Value} {h : am_H} {Q : Option Value → am_H → Prop} {l1 l2 l3 : Option Value} {x : Nat} : AW d 0 1070 [some (.ref x), l1, l2, l3] S h Q = AW d 0 1071 [some (.ref x), l1, l2, l3] (.ref x :: S) h Q := AW_n cdn_L_law rfl rfl
set_option maxRecDepth 20000 in
theorem st_L_law_1071 {d : Nat} {S : List Value} {h : am_H} {Q : Option Value → am_H → Prop} {l0 l1 l2 : Option Value} {x : Int32} : AW d 0 1071 [l0, l1, l2, some (.int x)] S h Q = AW d 0 1072 [l0, l1, l2, some (.int x)] (.int x :: S) h Q := AW_n cdn_L_law rfl rfl
set_option maxRecDepth 20000 in
theorem st_L_law_1072 {d : Nat} {L : am_L} {S : List Value} {h : am_H} {Q : Option Value → am_H → Prop} : AW d 0 1072 L S h Q = AW d 0 1073 L (.int 2 :: S) h Q := AW_n cdn_L_law rfl rfl
set_option maxRecDepth 20000 in
theorem st_L_law_1073 {d : Nat} {L : am_L} {S : List Value} {h : am_H} {Q : Option Value → am_H → Prop} {x y : Int32} : AW d 0 1073 L (.int y :: .int x :: S) h Q = AW d 0 1074 L (.int (x + y) :: S) h Q := AW_n cdn_L_law rfl rfl
set_option maxRecDepth 20000 in
theorem st_L_law_1074 {d : Nat} {L : am_L} {S : List Value} {Q : Option Value → am_H → Prop} {c : List (Nat × Nat)} {a : Nat → Nat → Int32} {r : Nat → Nat → Option Nat} {i : Int32} {k : Nat} (ht : am_tag c k = 20) (hi : inb i (am_len c k)) : AW d 0 1074 L (.int i :: .ref k :: S) (c, a, r) Q = AW d 0 1075 L (.int (a k i.toNatClampNeg) :: S) (c, a, r) Q := AW_ald cdn_L_law rfl (by decide) ht hi
set_option maxRecDepth 20000 in
theorem st_L_law_1075 {d : Nat} {S : List Value} {h : am_H} {Q : Option Value → am_H → Prop} {l1 l2 l3 : Option Value} {x : Nat} : AW d 0 1075 [some (.ref x), l1, l2, l3] S h Q = AW d 0 1076 [some (.ref x), l1, l2, l3] (.ref x :: S) h Q := AW_n cdn_L_law rfl rfl
set_option maxRecDepth 20000 in
theorem st_L_law_1076 {d : Nat} {S : List Value} {h : am_H} {Q : Option Value → am_H → Prop} {l0 l1 l2 : Option Value} {x : Int32} : AW d 0 1076 [l0, l1, l2, some (.int x)] S h Q = AW d 0 1077 [l0, l1, l2, some (.int x)] (.int x :: S) h Q := AW_n cdn_L_law rfl rfl
set_option maxRecDepth 20000 in
theorem st_L_law_1077 {d : Nat} {L : am_L} {S : List Value} {h : am_H} {Q : Option Value → am_H → Prop} : AW d 0 1077 L S h Q = AW d 0 1078 L (.int 3 :: S) h Q := AW_n cdn_L_law rfl rfl
set_option maxRecDepth 20000 in
theorem st_L_law_1078 {d : Nat} {L : am_L} {S : List Value} {h : am_H} {Q : Option Value → am_H → Prop} {x y : Int32} : AW d 0 1078 L (.int y :: .int x :: S) h Q = AW d 0 1079 L (.int (x + y) :: S) h Q := AW_n cdn_L_law rfl rfl
set_option maxRecDepth 20000 in
theorem st_L_law_1079 {d : Nat} {L : am_L} {S : List Value} {Q : Option Value → am_H → Prop} {c : List (Nat × Nat)} {a : Nat → Nat → Int32} {r : Nat → Nat → Option Nat} {i : Int32} {k : Nat} (ht : am_tag c k = 20) (hi : inb i (am_len c k)) : AW d 0 1079 L (.int i :: .ref k :: S) (c, a, r) Q = AW d 0 1080 L (.int (a k i.toNatClampNeg) :: S) (c, a, r) Q := AW_ald cdn_L_law rfl (by decide) ht hi
set_option maxRecDepth 20000 in
theorem st_L_law_1080 {d : Nat} {L : am_L} {S : List Value} {Q : Option Value → am_H → Prop} {c : List (Nat × Nat)} {a : Nat → Nat → Int32} {r : Nat → Nat → Option Nat} {k : Nat} {x1 : Int32} {x2 : Int32} {x3 : Int32} (ht : am_tag c k = 9) (hS : (S.map fun v => v.category).sum ≤ 8) : AW (d + 1) 0 1080 L (.int x3 :: .int x2 :: .int x1 :: .ref k :: S) (c, a, r) Q = CALL d 96 [.ref k, .int x1, .int x2, .int x3] (c, a, r) (fun v h9 => AW (d + 1) 0 1083 L (v.toList ++ S) h9 Q) := AW_invV (n := 3) (t := [.int x3, .int x2, .int x1]) cdn_L_law rfl (by decide) (Nat.le_of_ble_eq_true rfl) rfl rfl ht hS
set_option maxRecDepth 20000 in
theorem st_L_law_1083 {d : Nat} {S : List Value} {h : am_H} {Q : Option Value → am_H → Prop} {l0 l1 l3 : Option Value} {x : Nat} : AW d 0 1083 [l0, l1, some (.ref x), l3] S h Q = AW d 0 1084 [l0, l1, some (.ref x), l3] (.ref x :: S) h Q := AW_n cdn_L_law rfl rfl
set_option maxRecDepth 20000 in
theorem st_L_law_1084 {d : Nat} {S : List Value} {h : am_H} {Q : Option Value → am_H → Prop} {l1 l2 l3 : Option Value} {x : Nat} : AW d 0 1084 [some (.ref x), l1, l2, l3] S h Q = AW d 0 1085 [some (.ref x), l1, l2, l3] (.ref x :: S) h Q := AW_n cdn_L_law rfl rfl
set_option maxRecDepth 20000 in
theorem st_L_law_1085 {d : Nat} {S : List Value} {h : am_H} {Q : Option Value → am_H → Prop} {l0 l1 l2 : Option Value} {x : Int32} : AW d 0 1085 [l0, l1, l2, some (.int x)] S h Q = AW d 0 1086 [l0, l1, l2, some (.int x)] (.int x :: S) h Q := AW_n cdn_L_law rfl rfl
set_option maxRecDepth 20000 in
theorem st_L_law_1086 {d : Nat} {L : am_L} {S : List Value} {h : am_H} {Q : Option Value → am_H → Prop} : AW d 0 1086 L S h Q = AW d 0 1087 L (.int 1 :: S) h Q := AW_n cdn_L_law rfl rfl
set_option maxRecDepth 20000 in
theorem st_L_law_1087 {d : Nat} {L : am_L} {S : List Value} {h : am_H} {Q : Option Value → am_H → Prop} {x y : Int32} : AW d 0 1087 L (.int y :: .int x :: S) h Q = AW d 0 1088 L (.int (x + y) :: S) h Q := AW_n cdn_L_law rfl rfl
set_option maxRecDepth 20000 in
theorem st_L_law_1088 {d : Nat} {L : am_L} {S : List Value} {Q : Option Value → am_H → Prop} {c : List (Nat × Nat)} {a : Nat → Nat → Int32} {r : Nat → Nat → Option Nat} {i : Int32} {k : Nat} (ht : am_tag c k = 20) (hi : inb i (am_len c k)) : AW d 0 1088 L (.int i :: .ref k :: S) (c, a, r) Q = AW d 0 1089 L (.int (a k i.toNatClampNeg) :: S) (c, a, r) Q := AW_ald cdn_L_law rfl (by decide) ht hi
set_option maxRecDepth 20000 in
theorem st_L_law_1089 {d : Nat} {S : List Value} {h : am_H} {Q : Option Value → am_H → Prop} {l1 l2 l3 : Option Value} {x : Nat} : AW d 0 1089 [some (.ref x), l1, l2, l3] S h Q = AW d 0 1090 [some (.ref x), l1, l2, l3] (.ref x :: S) h Q := AW_n cdn_L_law rfl rfl
set_option maxRecDepth 20000 in
theorem st_L_law_1090 {d : Nat} {S : List Value} {h : am_H} {Q : Option Value → am_H → Prop} {l0 l1 l2 : Option Value} {x : Int32} : AW d 0 1090 [l0, l1, l2, some (.int x)] S h Q = AW d 0 1091 [l0, l1, l2, some (.int x)] (.int x :: S) h Q := AW_n cdn_L_law rfl rfl
set_option maxRecDepth 20000 in
theorem st_L_law_1091 {d : Nat} {L : am_L} {S : List Value} {h : am_H} {Q : Option Value → am_H → Prop} : AW d 0 1091 L S h Q = AW d 0 1092 L (.int 2 :: S) h Q := AW_n cdn_L_law rfl rfl
set_option maxRecDepth 20000 in
theorem st_L_law_1092 {d : Nat} {L : am_L} {S : List Value} {h : am_H} {Q : Option Value → am_H → Prop} {x y : Int32} : AW d 0 1092 L (.int y :: .int x :: S) h Q = AW d 0 1093 L (.int (x + y) :: S) h Q := AW_n cdn_L_law rfl rfl
set_option maxRecDepth 20000 in
theorem st_L_law_1093 {d : Nat} {L : am_L} {S : List Value} {Q : Option Value → am_H → Prop} {c : List (Nat × Nat)} {a : Nat → Nat → Int32} {r : Nat → Nat → Option Nat} {i : Int32} {k : Nat} (ht : am_tag c k = 20) (hi : inb i (am_len c k)) : AW d 0 1093 L (.int i :: .ref k :: S) (c, a, r) Q = AW d 0 1094 L (.int (a k i.toNatClampNeg) :: S) (c, a, r) Q := AW_ald cdn_L_law rfl (by decide) ht hi
set_option maxRecDepth 20000 in
theorem st_L_law_1094 {d : Nat} {S : List Value} {h : am_H} {Q : Option Value → am_H → Prop} {l1 l2 l3 : Option Value} {x : Nat} : AW d 0 1094 [some (.ref x), l1, l2, l3] S h Q = AW d 0 1095 [some (.ref x), l1, l2, l3] (.ref x :: S) h Q := AW_n cdn_L_law rfl rfl
set_option maxRecDepth 20000 in
theorem st_L_law_1095 {d : Nat} {S : List Value} {h : am_H} {Q : Option Value → am_H → Prop} {l0 l1 l2 : Option Value} {x : Int32} : AW d 0 1095 [l0, l1, l2, some (.int x)] S h Q = AW d 0 1096 [l0, l1, l2, some (.int x)] (.int x :: S) h Q := AW_n cdn_L_law rfl rfl
set_option maxRecDepth 20000 in
theorem st_L_law_1096 {d : Nat} {L : am_L} {S : List Value} {h : am_H} {Q : Option Value → am_H → Prop} : AW d 0 1096 L S h Q = AW d 0 1097 L (.int 3 :: S) h Q := AW_n cdn_L_law rfl rfl
set_option maxRecDepth 20000 in
theorem st_L_law_1097 {d : Nat} {L : am_L} {S : List Value} {h : am_H} {Q : Option Value → am_H → Prop} {x y : Int32} : AW d 0 1097 L (.int y :: .int x :: S) h Q = AW d 0 1098 L (.int (x + y) :: S) h Q := AW_n cdn_L_law rfl rfl
set_option maxRecDepth 20000 in
theorem st_L_law_1098 {d : Nat} {L : am_L} {S : List Value} {Q : Option Value → am_H → Prop} {c : List (Nat × Nat)} {a : Nat → Nat → Int32} {r : Nat → Nat → Option Nat} {i : Int32} {k : Nat} (ht : am_tag c k = 20) (hi : inb i (am_len c k)) : AW d 0 1098 L (.int i :: .ref k :: S) (c, a, r) Q = AW d 0 1099 L (.int (a k i.toNatClampNeg) :: S) (c, a, r) Q := AW_ald cdn_L_law rfl (by decide) ht hi
set_option maxRecDepth 20000 in
theorem st_L_law_1099 {d : Nat} {L : am_L} {S : List Value} {Q : Option Value → am_H → Prop} {c : List (Nat × Nat)} {a : Nat → Nat → Int32} {r : Nat → Nat → Option Nat} {k : Nat} {x1 : Int32} {x2 : Int32} {x3 : Int32} (ht : am_tag c k = 10) (hS : (S.map fun v => v.category).sum ≤ 8) : AW (d + 1) 0 1099 L (.int x3 :: .int x2 :: .int x1 :: .ref k :: S) (c, a, r) Q = CALL d 182 [.ref k, .int x1, .int x2, .int x3] (c, a, r) (fun v h9 => AW (d + 1) 0 1102 L (v.toList ++ S) h9 Q) := AW_invV (n := 3) (t := [.int x3, .int x2, .int x1]) cdn_L_law rfl (by decide) (Nat.le_of_ble_eq_true rfl) rfl rfl ht hS
set_option maxRecDepth 20000 in
theorem st_L_law_1102 {d : Nat} {L : am_L} {S : List Value} {h : am_H} {Q : Option Value → am_H → Prop} {x y : Int32} : AW d 0 1102 L (.int y :: .int x :: S) h Q = if x = y then AW d 0 1579 L S h Q else AW d 0 1105 L S h Q := AW_if cdn_L_law rfl rfl
set_option maxRecDepth 20000 in
theorem st_L_law_1105 {d : Nat} {L : am_L} {S : List Value} {h : am_H} {Q : Option Value → am_H → Prop} : AW d 0 1105 L S h Q = AW d 0 1106 L (.int 0 :: S) h Q := AW_n cdn_L_law rfl rfl
set_option maxRecDepth 20000 in
theorem st_L_law_1106 {d : Nat} {L : am_L} {h : am_H} {Q : Option Value → am_H → Prop} {x : Int32} (hx : x = 0 ∨ x = 1) : AW d 0 1106 L [.int x] h Q = Q (some (.int x)) h := AW_zret cdn_L_law rfl hx
set_option maxRecDepth 20000 in
theorem st_L_law_1107 {d : Nat} {S : List Value} {h : am_H} {Q : Option Value → am_H → Prop} {l0 l2 l3 : Option Value} {x : Nat} : AW d 0 1107 [l0, some (.ref x), l2, l3] S h Q = AW d 0 1108 [l0, some (.ref x), l2, l3] (.ref x :: S) h Q := AW_n cdn_L_law rfl rfl
set_option maxRecDepth 20000 in
theorem st_L_law_1108 {d : Nat} {S : List Value} {h : am_H} {Q : Option Value → am_H → Prop} {l1 l2 l3 : Option Value} {x : Nat} : AW d 0 1108 [some (.ref x), l1, l2, l3] S h Q = AW d 0 1109 [some (.ref x), l1, l2, l3] (.ref x :: S) h Q := AW_n cdn_L_law rfl rfl
set_option maxRecDepth 20000 in
theorem st_L_law_1109 {d : Nat} {S : List Value} {h : am_H} {Q : Option Value → am_H → Prop} {l0 l1 l2 : Option Value} {x : Int32} : AW d 0 1109 [l0, l1, l2, some (.int x)] S h Q = AW d 0 1110 [l0, l1, l2, some (.int x)] (.int x :: S) h Q := AW_n cdn_L_law rfl rfl
set_option maxRecDepth 20000 in
theorem st_L_law_1110 {d : Nat} {L : am_L} {S : List Value} {h : am_H} {Q : Option Value → am_H → Prop} : AW d 0 1110 L S h Q = AW d 0 1111 L (.int 1 :: S) h Q := AW_n cdn_L_law rfl rfl
set_option maxRecDepth 20000 in
theorem st_L_law_1111 {d : Nat} {L : am_L} {S : List Value} {h : am_H} {Q : Option Value → am_H → Prop} {x y : Int32} : AW d 0 1111 L (.int y :: .int x :: S) h Q = AW d 0 1112 L (.int (x + y) :: S) h Q := AW_n cdn_L_law rfl rfl
set_option maxRecDepth 20000 in
theorem st_L_law_1112 {d : Nat} {L : am_L} {S : List Value} {Q : Option Value → am_H → Prop} {c : List (Nat × Nat)} {a : Nat → Nat → Int32} {r : Nat → Nat → Option Nat} {i : Int32} {k : Nat} (ht : am_tag c k = 20) (hi : inb i (am_len c k)) : AW d 0 1112 L (.int i :: .ref k :: S) (c, a, r) Q = AW d 0 1113 L (.int (a k i.toNatClampNeg) :: S) (c, a, r) Q := AW_ald cdn_L_law rfl (by decide) ht hi
set_option maxRecDepth 20000 in
theorem st_L_law_1113 {d : Nat} {L : am_L} {S : List Value} {Q : Option Value → am_H → Prop} {c : List (Nat × Nat)} {a : Nat → Nat → Int32} {r : Nat → Nat → Option Nat} {k : Nat} {x1 : Int32} (ht : am_tag c k = 9) (hS : (S.map fun v => v.category).sum ≤ 8) : AW (d + 1) 0 1113 L (.int x1 :: .ref k :: S) (c, a, r) Q = CALL d 97 [.ref k, .int x1] (c, a, r) (fun v h9 => AW (d + 1) 0 1116 L (v.toList ++ S) h9 Q) := AW_invV (n := 1) (t := [.int x1]) cdn_L_law rfl (by decide) (Nat.le_of_ble_eq_true rfl) rfl rfl ht hS
set_option maxRecDepth 20000 in
theorem st_L_law_1116 {d : Nat} {S : List Value} {h : am_H} {Q : Option Value → am_H → Prop} {l0 l1 l3 : Option Value} {x : Nat} : AW d 0 1116 [l0, l1, some (.ref x), l3] S h Q = AW d 0 1117 [l0, l1, some (.ref x), l3] (.ref x :: S) h Q := AW_n cdn_L_law rfl rfl
set_option maxRecDepth 20000 in
theorem st_L_law_1117 {d : Nat} {S : List Value} {h : am_H} {Q : Option Value → am_H → Prop} {l1 l2 l3 : Option Value} {x : Nat} : AW d 0 1117 [some (.ref x), l1, l2, l3] S h Q = AW d 0 1118 [some (.ref x), l1, l2, l3] (.ref x :: S) h Q := AW_n cdn_L_law rfl rfl
set_option maxRecDepth 20000 in
theorem st_L_law_1118 {d : Nat} {S : List Value} {h : am_H} {Q : Option Value → am_H → Prop} {l0 l1 l2 : Option Value} {x : Int32} : AW d 0 1118 [l0, l1, l2, some (.int x)] S h Q = AW d 0 1119 [l0, l1, l2, some (.int x)] (.int x :: S) h Q := AW_n cdn_L_law rfl rfl
set_option maxRecDepth 20000 in
theorem st_L_law_1119 {d : Nat} {L : am_L} {S : List Value} {h : am_H} {Q : Option Value → am_H → Prop} : AW d 0 1119 L S h Q = AW d 0 1120 L (.int 1 :: S) h Q := AW_n cdn_L_law rfl rfl
set_option maxRecDepth 20000 in
theorem st_L_law_1120 {d : Nat} {L : am_L} {S : List Value} {h : am_H} {Q : Option Value → am_H → Prop} {x y : Int32} : AW d 0 1120 L (.int y :: .int x :: S) h Q = AW d 0 1121 L (.int (x + y) :: S) h Q := AW_n cdn_L_law rfl rfl
set_option maxRecDepth 20000 in
theorem st_L_law_1121 {d : Nat} {L : am_L} {S : List Value} {Q : Option Value → am_H → Prop} {c : List (Nat × Nat)} {a : Nat → Nat → Int32} {r : Nat → Nat → Option Nat} {i : Int32} {k : Nat} (ht : am_tag c k = 20) (hi : inb i (am_len c k)) : AW d 0 1121 L (.int i :: .ref k :: S) (c, a, r) Q = AW d 0 1122 L (.int (a k i.toNatClampNeg) :: S) (c, a, r) Q := AW_ald cdn_L_law rfl (by decide) ht hi
set_option maxRecDepth 20000 in
theorem st_L_law_1122 {d : Nat} {L : am_L} {S : List Value} {Q : Option Value → am_H → Prop} {c : List (Nat × Nat)} {a : Nat → Nat → Int32} {r : Nat → Nat → Option Nat} {k : Nat} {x1 : Int32} (ht : am_tag c k = 10) (hS : (S.map fun v => v.category).sum ≤ 8) : AW (d + 1) 0 1122 L (.int x1 :: .ref k :: S) (c, a, r) Q = CALL d 183 [.ref k, .int x1] (c, a, r) (fun v h9 => AW (d + 1) 0 1125 L (v.toList ++ S) h9 Q) := AW_invV (n := 1) (t := [.int x1]) cdn_L_law rfl (by decide) (Nat.le_of_ble_eq_true rfl) rfl rfl ht hS
set_option maxRecDepth 20000 in
theorem st_L_law_1125 {d : Nat} {L : am_L} {S : List Value} {h : am_H} {Q : Option Value → am_H → Prop} {x y : Int32} : AW d 0 1125 L (.int y :: .int x :: S) h Q = if x = y then AW d 0 1579 L S h Q else AW d 0 1128 L S h Q := AW_if cdn_L_law rfl rfl
set_option maxRecDepth 20000 in
theorem st_L_law_1128 {d : Nat} {L : am_L} {S : List Value} {h : am_H} {Q : Option Value → am_H → Prop} : AW d 0 1128 L S h Q = AW d 0 1129 L (.int 0 :: S) h Q := AW_n cdn_L_law rfl rfl
set_option maxRecDepth 20000 in
theorem st_L_law_1129 {d : Nat} {L : am_L} {h : am_H} {Q : Option Value → am_H → Prop} {x : Int32} (hx : x = 0 ∨ x = 1) : AW d 0 1129 L [.int x] h Q = Q (some (.int x)) h := AW_zret cdn_L_law rfl hx
set_option maxRecDepth 20000 in
theorem st_L_law_1130 {d : Nat} {S : List Value} {h : am_H} {Q : Option Value → am_H → Prop} {l0 l2 l3 : Option Value} {x : Nat} : AW d 0 1130 [l0, some (.ref x), l2, l3] S h Q = AW d 0 1131 [l0, some (.ref x), l2, l3] (.ref x :: S) h Q := AW_n cdn_L_law rfl rfl
set_option maxRecDepth 20000 in
theorem st_L_law_1131 {d : Nat} {S : List Value} {h : am_H} {Q : Option Value → am_H → Prop} {l1 l2 l3 : Option Value} {x : Nat} : AW d 0 1131 [some (.ref x), l1, l2, l3] S h Q = AW d 0 1132 [some (.ref x), l1, l2, l3] (.ref x :: S) h Q := AW_n cdn_L_law rfl rfl
set_option maxRecDepth 20000 in
theorem st_L_law_1132 {d : Nat} {S : List Value} {h : am_H} {Q : Option Value → am_H → Prop} {l0 l1 l2 : Option Value} {x : Int32} : AW d 0 1132 [l0, l1, l2, some (.int x)] S h Q = AW d 0 1133 [l0, l1, l2, some (.int x)] (.int x :: S) h Q := AW_n cdn_L_law rfl rfl
set_option maxRecDepth 20000 in
theorem st_L_law_1133 {d : Nat} {L : am_L} {S : List Value} {h : am_H} {Q : Option Value → am_H → Prop} : AW d 0 1133 L S h Q = AW d 0 1134 L (.int 1 :: S) h Q := AW_n cdn_L_law rfl rfl
set_option maxRecDepth 20000 in
theorem st_L_law_1134 {d : Nat} {L : am_L} {S : List Value} {h : am_H} {Q : Option Value → am_H → Prop} {x y : Int32} : AW d 0 1134 L (.int y :: .int x :: S) h Q = AW d 0 1135 L (.int (x + y) :: S) h Q := AW_n cdn_L_law rfl rfl
set_option maxRecDepth 20000 in
theorem st_L_law_1135 {d : Nat} {L : am_L} {S : List Value} {Q : Option Value → am_H → Prop} {c : List (Nat × Nat)} {a : Nat → Nat → Int32} {r : Nat → Nat → Option Nat} {i : Int32} {k : Nat} (ht : am_tag c k = 20) (hi : inb i (am_len c k)) : AW d 0 1135 L (.int i :: .ref k :: S) (c, a, r) Q = AW d 0 1136 L (.int (a k i.toNatClampNeg) :: S) (c, a, r) Q := AW_ald cdn_L_law rfl (by decide) ht hi
set_option maxRecDepth 20000 in
theorem st_L_law_1136 {d : Nat} {S : List Value} {h : am_H} {Q : Option Value → am_H → Prop} {l1 l2 l3 : Option Value} {x : Nat} : AW d 0 1136 [some (.ref x), l1, l2, l3] S h Q = AW d 0 1137 [some (.ref x), l1, l2, l3] (.ref x :: S) h Q := AW_n cdn_L_law rfl rfl
set_option maxRecDepth 20000 in
theorem st_L_law_1137 {d : Nat} {S : List Value} {h : am_H} {Q : Option Value → am_H → Prop} {l0 l1 l2 : Option Value} {x : Int32} : AW d 0 1137 [l0, l1, l2, some (.int x)] S h Q = AW d 0 1138 [l0, l1, l2, some (.int x)] (.int x :: S) h Q := AW_n cdn_L_law rfl rfl
set_option maxRecDepth 20000 in
theorem st_L_law_1138 {d : Nat} {L : am_L} {S : List Value} {h : am_H} {Q : Option Value → am_H → Prop} : AW d 0 1138 L S h Q = AW d 0 1139 L (.int 2 :: S) h Q := AW_n cdn_L_law rfl rfl
set_option maxRecDepth 20000 in
theorem st_L_law_1139 {d : Nat} {L : am_L} {S : List Value} {h : am_H} {Q : Option Value → am_H → Prop} {x y : Int32} : AW d 0 1139 L (.int y :: .int x :: S) h Q = AW d 0 1140 L (.int (x + y) :: S) h Q := AW_n cdn_L_law rfl rfl
set_option maxRecDepth 20000 in
theorem st_L_law_1140 {d : Nat} {L : am_L} {S : List Value} {Q : Option Value → am_H → Prop} {c : List (Nat × Nat)} {a : Nat → Nat → Int32} {r : Nat → Nat → Option Nat} {i : Int32} {k : Nat} (ht : am_tag c k = 20) (hi : inb i (am_len c k)) : AW d 0 1140 L (.int i :: .ref k :: S) (c, a, r) Q = AW d 0 1141 L (.int (a k i.toNatClampNeg) :: S) (c, a, r) Q := AW_ald cdn_L_law rfl (by decide) ht hi
set_option maxRecDepth 20000 in
theorem st_L_law_1141 {d : Nat} {S : List Value} {h : am_H} {Q : Option Value → am_H → Prop} {l1 l2 l3 : Option Value} {x : Nat} : AW d 0 1141 [some (.ref x), l1, l2, l3] S h Q = AW d 0 1142 [some (.ref x), l1, l2, l3] (.ref x :: S) h Q := AW_n cdn_L_law rfl rfl
set_option maxRecDepth 20000 in
theorem st_L_law_1142 {d : Nat} {S : List Value} {h : am_H} {Q : Option Value → am_H → Prop} {l0 l1 l2 : Option Value} {x : Int32} : AW d 0 1142 [l0, l1, l2, some (.int x)] S h Q = AW d 0 1143 [l0, l1, l2, some (.int x)] (.int x :: S) h Q := AW_n cdn_L_law rfl rfl
set_option maxRecDepth 20000 in
theorem st_L_law_1143 {d : Nat} {L : am_L} {S : List Value} {h : am_H} {Q : Option Value → am_H → Prop} : AW d 0 1143 L S h Q = AW d 0 1144 L (.int 3 :: S) h Q := AW_n cdn_L_law rfl rfl
set_option maxRecDepth 20000 in
theorem st_L_law_1144 {d : Nat} {L : am_L} {S : List Value} {h : am_H} {Q : Option Value → am_H → Prop} {x y : Int32} : AW d 0 1144 L (.int y :: .int x :: S) h Q = AW d 0 1145 L (.int (x + y) :: S) h Q := AW_n cdn_L_law rfl rfl
set_option maxRecDepth 20000 in
theorem st_L_law_1145 {d : Nat} {L : am_L} {S : List Value} {Q : Option Value → am_H → Prop} {c : List (Nat × Nat)} {a : Nat → Nat → Int32} {r : Nat → Nat → Option Nat} {i : Int32} {k : Nat} (ht : am_tag c k = 20) (hi : inb i (am_len c k)) : AW d 0 1145 L (.int i :: .ref k :: S) (c, a, r) Q = AW d 0 1146 L (.int (a k i.toNatClampNeg) :: S) (c, a, r) Q := AW_ald cdn_L_law rfl (by decide) ht hi
set_option maxRecDepth 20000 in
theorem st_L_law_1146 {d : Nat} {L : am_L} {S : List Value} {h : am_H} {Q : Option Value → am_H → Prop} {x : Int32} : AW d 0 1146 L (.int x :: S) h Q = if x = 0 then AW d 0 1153 L S h Q else AW d 0 1149 L S h Q := AW_if cdn_L_law rfl rfl
set_option maxRecDepth 20000 in
theorem st_L_law_1149 {d : Nat} {L : am_L} {S : List Value} {h : am_H} {Q : Option Value → am_H → Prop} : AW d 0 1149 L S h Q = AW d 0 1150 L (.int 1 :: S) h Q := AW_n cdn_L_law rfl rfl
set_option maxRecDepth 20000 in
theorem st_L_law_1150 {d : Nat} {L : am_L} {S : List Value} {h : am_H} {Q : Option Value → am_H → Prop} : AW d 0 1150 L S h Q = AW d 0 1154 L S h Q := AW_n cdn_L_law rfl rfl
set_option maxRecDepth 20000 in
theorem st_L_law_1153 {d : Nat} {L : am_L} {S : List Value} {h : am_H} {Q : Option Value → am_H → Prop} : AW d 0 1153 L S h Q = AW d 0 1154 L (.int 0 :: S) h Q := AW_n cdn_L_law rfl rfl
set_option maxRecDepth 20000 in
theorem st_L_law_1154 {d : Nat} {L : am_L} {S : List Value} {Q : Option Value → am_H → Prop} {c : List (Nat × Nat)} {a : Nat → Nat → Int32} {r : Nat → Nat → Option Nat} {k : Nat} {x1 : Int32} {x2 : Int32} {x3 : Int32} (ht : am_tag c k = 9) (hS : (S.map fun v => v.category).sum ≤ 8) : AW (d + 1) 0 1154 L (.int x3 :: .int x2 :: .int x1 :: .ref k :: S) (c, a, r) Q = CALL d 98 [.ref k, .int x1, .int x2, .int x3] (c, a, r) (fun v h9 => AW (d + 1) 0 1157 L (v.toList ++ S) h9 Q) := AW_invV (n := 3) (t := [.int x3, .int x2, .int x1]) cdn_L_law rfl (by decide) (Nat.le_of_ble_eq_true rfl) rfl rfl ht hS
set_option maxRecDepth 20000 in
theorem st_L_law_1157 {d : Nat} {S : List Value} {h : am_H} {Q : Option Value → am_H → Prop} {l0 l1 l3 : Option Value} {x : Nat} : AW d 0 1157 [l0, l1, some (.ref x), l3] S h Q = AW d 0 1158 [l0, l1, some (.ref x), l3] (.ref x :: S) h Q := AW_n cdn_L_law rfl rfl
set_option maxRecDepth 20000 in
theorem st_L_law_1158 {d : Nat} {S : List Value} {h : am_H} {Q : Option Value → am_H → Prop} {l1 l2 l3 : Option Value} {x : Nat} : AW d 0 1158 [some (.ref x), l1, l2, l3] S h Q = AW d 0 1159 [some (.ref x), l1, l2, l3] (.ref x :: S) h Q := AW_n cdn_L_law rfl rfl
set_option maxRecDepth 20000 in
theorem st_L_law_1159 {d : Nat} {S : List Value} {h : am_H} {Q : Option Value → am_H → Prop} {l0 l1 l2 : Option Value} {x : Int32} : AW d 0 1159 [l0, l1, l2, some (.int x)] S h Q = AW d 0 1160 [l0, l1, l2, some (.int x)] (.int x :: S) h Q := AW_n cdn_L_law rfl rfl
set_option maxRecDepth 20000 in
theorem st_L_law_1160 {d : Nat} {L : am_L} {S : List Value} {h : am_H} {Q : Option Value → am_H → Prop} : AW d 0 1160 L S h Q = AW d 0 1161 L (.int 1 :: S) h Q := AW_n cdn_L_law rfl rfl
set_option maxRecDepth 20000 in
theorem st_L_law_1161 {d : Nat} {L : am_L} {S : List Value} {h : am_H} {Q : Option Value → am_H → Prop} {x y : Int32} : AW d 0 1161 L (.int y :: .int x :: S) h Q = AW d 0 1162 L (.int (x + y) :: S) h Q := AW_n cdn_L_law rfl rfl
set_option maxRecDepth 20000 in
theorem st_L_law_1162 {d : Nat} {L : am_L} {S : List Value} {Q : Option Value → am_H → Prop} {c : List (Nat × Nat)} {a : Nat → Nat → Int32} {r : Nat → Nat → Option Nat} {i : Int32} {k : Nat} (ht : am_tag c k = 20) (hi : inb i (am_len c k)) : AW d 0 1162 L (.int i :: .ref k :: S) (c, a, r) Q = AW d 0 1163 L (.int (a k i.toNatClampNeg) :: S) (c, a, r) Q := AW_ald cdn_L_law rfl (by decide) ht hi
set_option maxRecDepth 20000 in
theorem st_L_law_1163 {d : Nat} {S : List Value} {h : am_H} {Q : Option Value → am_H → Prop} {l1 l2 l3 : Option Value} {x : Nat} : AW d 0 1163 [some (.ref x), l1, l2, l3] S h Q = AW d 0 1164 [some (.ref x), l1, l2, l3] (.ref x :: S) h Q := AW_n cdn_L_law rfl rfl
set_option maxRecDepth 20000 in
theorem st_L_law_1164 {d : Nat} {S : List Value} {h : am_H} {Q : Option Value → am_H → Prop} {l0 l1 l2 : Option Value} {x : Int32} : AW d 0 1164 [l0, l1, l2, some (.int x)] S h Q = AW d 0 1165 [l0, l1, l2, some (.int x)] (.int x :: S) h Q := AW_n cdn_L_law rfl rfl
set_option maxRecDepth 20000 in
theorem st_L_law_1165 {d : Nat} {L : am_L} {S : List Value} {h : am_H} {Q : Option Value → am_H → Prop} : AW d 0 1165 L S h Q = AW d 0 1166 L (.int 2 :: S) h Q := AW_n cdn_L_law rfl rfl
set_option maxRecDepth 20000 in
theorem st_L_law_1166 {d : Nat} {L : am_L} {S : List Value} {h : am_H} {Q : Option Value → am_H → Prop} {x y : Int32} : AW d 0 1166 L (.int y :: .int x :: S) h Q = AW d 0 1167 L (.int (x + y) :: S) h Q := AW_n cdn_L_law rfl rfl
set_option maxRecDepth 20000 in
theorem st_L_law_1167 {d : Nat} {L : am_L} {S : List Value} {Q : Option Value → am_H → Prop} {c : List (Nat × Nat)} {a : Nat → Nat → Int32} {r : Nat → Nat → Option Nat} {i : Int32} {k : Nat} (ht : am_tag c k = 20) (hi : inb i (am_len c k)) : AW d 0 1167 L (.int i :: .ref k :: S) (c, a, r) Q = AW d 0 1168 L (.int (a k i.toNatClampNeg) :: S) (c, a, r) Q := AW_ald cdn_L_law rfl (by decide) ht hi
set_option maxRecDepth 20000 in
theorem st_L_law_1168 {d : Nat} {S : List Value} {h : am_H} {Q : Option Value → am_H → Prop} {l1 l2 l3 : Option Value} {x : Nat} : AW d 0 1168 [some (.ref x), l1, l2, l3] S h Q = AW d 0 1169 [some (.ref x), l1, l2, l3] (.ref x :: S) h Q := AW_n cdn_L_law rfl rfl
set_option maxRecDepth 20000 in
theorem st_L_law_1169 {d : Nat} {S : List Value} {h : am_H} {Q : Option Value → am_H → Prop} {l0 l1 l2 : Option Value} {x : Int32} : AW d 0 1169 [l0, l1, l2, some (.int x)] S h Q = AW d 0 1170 [l0, l1, l2, some (.int x)] (.int x :: S) h Q := AW_n cdn_L_law rfl rfl
set_option maxRecDepth 20000 in
theorem st_L_law_1170 {d : Nat} {L : am_L} {S : List Value} {h : am_H} {Q : Option Value → am_H → Prop} : AW d 0 1170 L S h Q = AW d 0 1171 L (.int 3 :: S) h Q := AW_n cdn_L_law rfl rfl
set_option maxRecDepth 20000 in
theorem st_L_law_1171 {d : Nat} {L : am_L} {S : List Value} {h : am_H} {Q : Option Value → am_H → Prop} {x y : Int32} : AW d 0 1171 L (.int y :: .int x :: S) h Q = AW d 0 1172 L (.int (x + y) :: S) h Q := AW_n cdn_L_law rfl rfl
set_option maxRecDepth 20000 in
theorem st_L_law_1172 {d : Nat} {L : am_L} {S : List Value} {Q : Option Value → am_H → Prop} {c : List (Nat × Nat)} {a : Nat → Nat → Int32} {r : Nat → Nat → Option Nat} {i : Int32} {k : Nat} (ht : am_tag c k = 20) (hi : inb i (am_len c k)) : AW d 0 1172 L (.int i :: .ref k :: S) (c, a, r) Q = AW d 0 1173 L (.int (a k i.toNatClampNeg) :: S) (c, a, r) Q := AW_ald cdn_L_law rfl (by decide) ht hi
set_option maxRecDepth 20000 in
theorem st_L_law_1173 {d : Nat} {L : am_L} {S : List Value} {h : am_H} {Q : Option Value → am_H → Prop} {x : Int32} : AW d 0 1173 L (.int x :: S) h Q = if x = 0 then AW d 0 1180 L S h Q else AW d 0 1176 L S h Q := AW_if cdn_L_law rfl rfl
set_option maxRecDepth 20000 in
theorem st_L_law_1176 {d : Nat} {L : am_L} {S : List Value} {h : am_H} {Q : Option Value → am_H → Prop} : AW d 0 1176 L S h Q = AW d 0 1177 L (.int 1 :: S) h Q := AW_n cdn_L_law rfl rfl
set_option maxRecDepth 20000 in
theorem st_L_law_1177 {d : Nat} {L : am_L} {S : List Value} {h : am_H} {Q : Option Value → am_H → Prop} : AW d 0 1177 L S h Q = AW d 0 1181 L S h Q := AW_n cdn_L_law rfl rfl
set_option maxRecDepth 20000 in
theorem st_L_law_1180 {d : Nat} {L : am_L} {S : List Value} {h : am_H} {Q : Option Value → am_H → Prop} : AW d 0 1180 L S h Q = AW d 0 1181 L (.int 0 :: S) h Q := AW_n cdn_L_law rfl rfl
set_option maxRecDepth 20000 in
theorem st_L_law_1181 {d : Nat} {L : am_L} {S : List Value} {Q : Option Value → am_H → Prop} {c : List (Nat × Nat)} {a : Nat → Nat → Int32} {r : Nat → Nat → Option Nat} {k : Nat} {x1 : Int32} {x2 : Int32} {x3 : Int32} (ht : am_tag c k = 10) (hS : (S.map fun v => v.category).sum ≤ 8) : AW (d + 1) 0 1181 L (.int x3 :: .int x2 :: .int x1 :: .ref k :: S) (c, a, r) Q = CALL d 184 [.ref k, .int x1, .int x2, .int x3] (c, a, r) (fun v h9 => AW (d + 1) 0 1184 L (v.toList ++ S) h9 Q) := AW_invV (n := 3) (t := [.int x3, .int x2, .int x1]) cdn_L_law rfl (by decide) (Nat.le_of_ble_eq_true rfl) rfl rfl ht hS
set_option maxRecDepth 20000 in
theorem st_L_law_1184 {d : Nat} {L : am_L} {S : List Value} {h : am_H} {Q : Option Value → am_H → Prop} {x y : Int32} : AW d 0 1184 L (.int y :: .int x :: S) h Q = if x = y then AW d 0 1579 L S h Q else AW d 0 1187 L S h Q := AW_if cdn_L_law rfl rfl
set_option maxRecDepth 20000 in
theorem st_L_law_1187 {d : Nat} {L : am_L} {S : List Value} {h : am_H} {Q : Option Value → am_H → Prop} : AW d 0 1187 L S h Q = AW d 0 1188 L (.int 0 :: S) h Q := AW_n cdn_L_law rfl rfl
set_option maxRecDepth 20000 in
theorem st_L_law_1188 {d : Nat} {L : am_L} {h : am_H} {Q : Option Value → am_H → Prop} {x : Int32} (hx : x = 0 ∨ x = 1) : AW d 0 1188 L [.int x] h Q = Q (some (.int x)) h := AW_zret cdn_L_law rfl hx
set_option maxRecDepth 20000 in
theorem st_L_law_1189 {d : Nat} {S : List Value} {h : am_H} {Q : Option Value → am_H → Prop} {l0 l2 l3 : Option Value} {x : Nat} : AW d 0 1189 [l0, some (.ref x), l2, l3] S h Q = AW d 0 1190 [l0, some (.ref x), l2, l3] (.ref x :: S) h Q := AW_n cdn_L_law rfl rfl
set_option maxRecDepth 20000 in
theorem st_L_law_1190 {d : Nat} {L : am_L} {S : List Value} {Q : Option Value → am_H → Prop} {c : List (Nat × Nat)} {a : Nat → Nat → Int32} {r : Nat → Nat → Option Nat} {k : Nat}  (ht : am_tag c k = 9) (hS : (S.map fun v => v.category).sum ≤ 8) : AW (d + 1) 0 1190 L (.ref k :: S) (c, a, r) Q = CALL d 99 [.ref k] (c, a, r) (fun v h9 => AW (d + 1) 0 1193 L (v.toList ++ S) h9 Q) := AW_invV (n := 0) (t := []) cdn_L_law rfl (by decide) (Nat.le_of_ble_eq_true rfl) rfl rfl ht hS
set_option maxRecDepth 20000 in
theorem st_L_law_1193 {d : Nat} {S : List Value} {h : am_H} {Q : Option Value → am_H → Prop} {l0 l1 l3 : Option Value} {x : Nat} : AW d 0 1193 [l0, l1, some (.ref x), l3] S h Q = AW d 0 1194 [l0, l1, some (.ref x), l3] (.ref x :: S) h Q := AW_n cdn_L_law rfl rfl
set_option maxRecDepth 20000 in
theorem st_L_law_1194 {d : Nat} {L : am_L} {S : List Value} {Q : Option Value → am_H → Prop} {c : List (Nat × Nat)} {a : Nat → Nat → Int32} {r : Nat → Nat → Option Nat} {k : Nat}  (ht : am_tag c k = 10) (hS : (S.map fun v => v.category).sum ≤ 8) : AW (d + 1) 0 1194 L (.ref k :: S) (c, a, r) Q = CALL d 185 [.ref k] (c, a, r) (fun v h9 => AW (d + 1) 0 1197 L (v.toList ++ S) h9 Q) := AW_invV (n := 0) (t := []) cdn_L_law rfl (by decide) (Nat.le_of_ble_eq_true rfl) rfl rfl ht hS
set_option maxRecDepth 20000 in
theorem st_L_law_1197 {d : Nat} {L : am_L} {S : List Value} {h : am_H} {Q : Option Value → am_H → Prop} {x y : Int32} : AW d 0 1197 L (.int y :: .int x :: S) h Q = if x = y then AW d 0 1579 L S h Q else AW d 0 1200 L S h Q := AW_if cdn_L_law rfl rfl
set_option maxRecDepth 20000 in
theorem st_L_law_1200 {d : Nat} {L : am_L} {S : List Value} {h : am_H} {Q : Option Value → am_H → Prop} : AW d 0 1200 L S h Q = AW d 0 1201 L (.int 0 :: S) h Q := AW_n cdn_L_law rfl rfl
set_option maxRecDepth 20000 in
theorem st_L_law_1201 {d : Nat} {L : am_L} {h : am_H} {Q : Option Value → am_H → Prop} {x : Int32} (hx : x = 0 ∨ x = 1) : AW d 0 1201 L [.int x] h Q = Q (some (.int x)) h := AW_zret cdn_L_law rfl hx
set_option maxRecDepth 20000 in
theorem st_L_law_1202 {d : Nat} {S : List Value} {h : am_H} {Q : Option Value → am_H → Prop} {l0 l2 l3 : Option Value} {x : Nat} : AW d 0 1202 [l0, some (.ref x), l2, l3] S h Q = AW d 0 1203 [l0, some (.ref x), l2, l3] (.ref x :: S) h Q := AW_n cdn_L_law rfl rfl
set_option maxRecDepth 20000 in
theorem st_L_law_1203 {d : Nat} {S : List Value} {h : am_H} {Q : Option Value → am_H → Prop} {l1 l2 l3 : Option Value} {x : Nat} : AW d 0 1203 [some (.ref x), l1, l2, l3] S h Q = AW d 0 1204 [some (.ref x), l1, l2, l3] (.ref x :: S) h Q := AW_n cdn_L_law rfl rfl
set_option maxRecDepth 20000 in
theorem st_L_law_1204 {d : Nat} {S : List Value} {h : am_H} {Q : Option Value → am_H → Prop} {l0 l1 l2 : Option Value} {x : Int32} : AW d 0 1204 [l0, l1, l2, some (.int x)] S h Q = AW d 0 1205 [l0, l1, l2, some (.int x)] (.int x :: S) h Q := AW_n cdn_L_law rfl rfl
set_option maxRecDepth 20000 in
theorem st_L_law_1205 {d : Nat} {L : am_L} {S : List Value} {h : am_H} {Q : Option Value → am_H → Prop} : AW d 0 1205 L S h Q = AW d 0 1206 L (.int 1 :: S) h Q := AW_n cdn_L_law rfl rfl
set_option maxRecDepth 20000 in
theorem st_L_law_1206 {d : Nat} {L : am_L} {S : List Value} {h : am_H} {Q : Option Value → am_H → Prop} {x y : Int32} : AW d 0 1206 L (.int y :: .int x :: S) h Q = AW d 0 1207 L (.int (x + y) :: S) h Q := AW_n cdn_L_law rfl rfl
set_option maxRecDepth 20000 in
theorem st_L_law_1207 {d : Nat} {L : am_L} {S : List Value} {Q : Option Value → am_H → Prop} {c : List (Nat × Nat)} {a : Nat → Nat → Int32} {r : Nat → Nat → Option Nat} {i : Int32} {k : Nat} (ht : am_tag c k = 20) (hi : inb i (am_len c k)) : AW d 0 1207 L (.int i :: .ref k :: S) (c, a, r) Q = AW d 0 1208 L (.int (a k i.toNatClampNeg) :: S) (c, a, r) Q := AW_ald cdn_L_law rfl (by decide) ht hi
set_option maxRecDepth 20000 in
theorem st_L_law_1208 {d : Nat} {S : List Value} {h : am_H} {Q : Option Value → am_H → Prop} {l1 l2 l3 : Option Value} {x : Nat} : AW d 0 1208 [some (.ref x), l1, l2, l3] S h Q = AW d 0 1209 [some (.ref x), l1, l2, l3] (.ref x :: S) h Q := AW_n cdn_L_law rfl rfl
set_option maxRecDepth 20000 in
theorem st_L_law_1209 {d : Nat} {S : List Value} {h : am_H} {Q : Option Value → am_H → Prop} {l0 l1 l2 : Option Value} {x : Int32} : AW d 0 1209 [l0, l1, l2, some (.int x)] S h Q = AW d 0 1210 [l0, l1, l2, some (.int x)] (.int x :: S) h Q := AW_n cdn_L_law rfl rfl
set_option maxRecDepth 20000 in
theorem st_L_law_1210 {d : Nat} {L : am_L} {S : List Value} {h : am_H} {Q : Option Value → am_H → Prop} : AW d 0 1210 L S h Q = AW d 0 1211 L (.int 2 :: S) h Q := AW_n cdn_L_law rfl rfl
set_option maxRecDepth 20000 in
theorem st_L_law_1211 {d : Nat} {L : am_L} {S : List Value} {h : am_H} {Q : Option Value → am_H → Prop} {x y : Int32} : AW d 0 1211 L (.int y :: .int x :: S) h Q = AW d 0 1212 L (.int (x + y) :: S) h Q := AW_n cdn_L_law rfl rfl
set_option maxRecDepth 20000 in
theorem st_L_law_1212 {d : Nat} {L : am_L} {S : List Value} {Q : Option Value → am_H → Prop} {c : List (Nat × Nat)} {a : Nat → Nat → Int32} {r : Nat → Nat → Option Nat} {i : Int32} {k : Nat} (ht : am_tag c k = 20) (hi : inb i (am_len c k)) : AW d 0 1212 L (.int i :: .ref k :: S) (c, a, r) Q = AW d 0 1213 L (.int (a k i.toNatClampNeg) :: S) (c, a, r) Q := AW_ald cdn_L_law rfl (by decide) ht hi
set_option maxRecDepth 20000 in
theorem st_L_law_1213 {d : Nat} {S : List Value} {h : am_H} {Q : Option Value → am_H → Prop} {l1 l2 l3 : Option Value} {x : Nat} : AW d 0 1213 [some (.ref x), l1, l2, l3] S h Q = AW d 0 1214 [some (.ref x), l1, l2, l3] (.ref x :: S) h Q := AW_n cdn_L_law rfl rfl
set_option maxRecDepth 20000 in
theorem st_L_law_1214 {d : Nat} {S : List Value} {h : am_H} {Q : Option Value → am_H → Prop} {l0 l1 l2 : Option Value} {x : Int32} : AW d 0 1214 [l0, l1, l2, some (.int x)] S h Q = AW d 0 1215 [l0, l1, l2, some (.int x)] (.int x :: S) h Q := AW_n cdn_L_law rfl rfl
set_option maxRecDepth 20000 in
theorem st_L_law_1215 {d : Nat} {L : am_L} {S : List Value} {h : am_H} {Q : Option Value → am_H → Prop} : AW d 0 1215 L S h Q = AW d 0 1216 L (.int 3 :: S) h Q := AW_n cdn_L_law rfl rfl
set_option maxRecDepth 20000 in
theorem st_L_law_1216 {d : Nat} {L : am_L} {S : List Value} {h : am_H} {Q : Option Value → am_H → Prop} {x y : Int32} : AW d 0 1216 L (.int y :: .int x :: S) h Q = AW d 0 1217 L (.int (x + y) :: S) h Q := AW_n cdn_L_law rfl rfl
set_option maxRecDepth 20000 in
theorem st_L_law_1217 {d : Nat} {L : am_L} {S : List Value} {Q : Option Value → am_H → Prop} {c : List (Nat × Nat)} {a : Nat → Nat → Int32} {r : Nat → Nat → Option Nat} {i : Int32} {k : Nat} (ht : am_tag c k = 20) (hi : inb i (am_len c k)) : AW d 0 1217 L (.int i :: .ref k :: S) (c, a, r) Q = AW d 0 1218 L (.int (a k i.toNatClampNeg) :: S) (c, a, r) Q := AW_ald cdn_L_law rfl (by decide) ht hi
set_option maxRecDepth 20000 in
theorem st_L_law_1218 {d : Nat} {L : am_L} {S : List Value} {Q : Option Value → am_H → Prop} {c : List (Nat × Nat)} {a : Nat → Nat → Int32} {r : Nat → Nat → Option Nat} {k : Nat} {x1 : Int32} {x2 : Int32} {x3 : Int32} (ht : am_tag c k = 9) (hS : (S.map fun v => v.category).sum ≤ 8) : AW (d + 1) 0 1218 L (.int x3 :: .int x2 :: .int x1 :: .ref k :: S) (c, a, r) Q = CALL d 100 [.ref k, .int x1, .int x2, .int x3] (c, a, r) (fun v h9 => AW (d + 1) 0 1221 L (v.toList ++ S) h9 Q) := AW_invV (n := 3) (t := [.int x3, .int x2, .int x1]) cdn_L_law rfl (by decide) (Nat.le_of_ble_eq_true rfl) rfl rfl ht hS
set_option maxRecDepth 20000 in
theorem st_L_law_1221 {d : Nat} {S : List Value} {h : am_H} {Q : Option Value → am_H → Prop} {l0 l1 l3 : Option Value} {x : Nat} : AW d 0 1221 [l0, l1, some (.ref x), l3] S h Q = AW d 0 1222 [l0, l1, some (.ref x), l3] (.ref x :: S) h Q := AW_n cdn_L_law rfl rfl
set_option maxRecDepth 20000 in
theorem st_L_law_1222 {d : Nat} {S : List Value} {h : am_H} {Q : Option Value → am_H → Prop} {l1 l2 l3 : Option Value} {x : Nat} : AW d 0 1222 [some (.ref x), l1, l2, l3] S h Q = AW d 0 1223 [some (.ref x), l1, l2, l3] (.ref x :: S) h Q := AW_n cdn_L_law rfl rfl
set_option maxRecDepth 20000 in
theorem st_L_law_1223 {d : Nat} {S : List Value} {h : am_H} {Q : Option Value → am_H → Prop} {l0 l1 l2 : Option Value} {x : Int32} : AW d 0 1223 [l0, l1, l2, some (.int x)] S h Q = AW d 0 1224 [l0, l1, l2, some (.int x)] (.int x :: S) h Q := AW_n cdn_L_law rfl rfl
set_option maxRecDepth 20000 in
theorem st_L_law_1224 {d : Nat} {L : am_L} {S : List Value} {h : am_H} {Q : Option Value → am_H → Prop} : AW d 0 1224 L S h Q = AW d 0 1225 L (.int 1 :: S) h Q := AW_n cdn_L_law rfl rfl
set_option maxRecDepth 20000 in
theorem st_L_law_1225 {d : Nat} {L : am_L} {S : List Value} {h : am_H} {Q : Option Value → am_H → Prop} {x y : Int32} : AW d 0 1225 L (.int y :: .int x :: S) h Q = AW d 0 1226 L (.int (x + y) :: S) h Q := AW_n cdn_L_law rfl rfl
set_option maxRecDepth 20000 in
theorem st_L_law_1226 {d : Nat} {L : am_L} {S : List Value} {Q : Option Value → am_H → Prop} {c : List (Nat × Nat)} {a : Nat → Nat → Int32} {r : Nat → Nat → Option Nat} {i : Int32} {k : Nat} (ht : am_tag c k = 20) (hi : inb i (am_len c k)) : AW d 0 1226 L (.int i :: .ref k :: S) (c, a, r) Q = AW d 0 1227 L (.int (a k i.toNatClampNeg) :: S) (c, a, r) Q := AW_ald cdn_L_law rfl (by decide) ht hi
set_option maxRecDepth 20000 in
theorem st_L_law_1227 {d : Nat} {S : List Value} {h : am_H} {Q : Option Value → am_H → Prop} {l1 l2 l3 : Option Value} {x : Nat} : AW d 0 1227 [some (.ref x), l1, l2, l3] S h Q = AW d 0 1228 [some (.ref x), l1, l2, l3] (.ref x :: S) h Q := AW_n cdn_L_law rfl rfl
set_option maxRecDepth 20000 in
theorem st_L_law_1228 {d : Nat} {S : List Value} {h : am_H} {Q : Option Value → am_H → Prop} {l0 l1 l2 : Option Value} {x : Int32} : AW d 0 1228 [l0, l1, l2, some (.int x)] S h Q = AW d 0 1229 [l0, l1, l2, some (.int x)] (.int x :: S) h Q := AW_n cdn_L_law rfl rfl
set_option maxRecDepth 20000 in
theorem st_L_law_1229 {d : Nat} {L : am_L} {S : List Value} {h : am_H} {Q : Option Value → am_H → Prop} : AW d 0 1229 L S h Q = AW d 0 1230 L (.int 2 :: S) h Q := AW_n cdn_L_law rfl rfl
set_option maxRecDepth 20000 in
theorem st_L_law_1230 {d : Nat} {L : am_L} {S : List Value} {h : am_H} {Q : Option Value → am_H → Prop} {x y : Int32} : AW d 0 1230 L (.int y :: .int x :: S) h Q = AW d 0 1231 L (.int (x + y) :: S) h Q := AW_n cdn_L_law rfl rfl
set_option maxRecDepth 20000 in
theorem st_L_law_1231 {d : Nat} {L : am_L} {S : List Value} {Q : Option Value → am_H → Prop} {c : List (Nat × Nat)} {a : Nat → Nat → Int32} {r : Nat → Nat → Option Nat} {i : Int32} {k : Nat} (ht : am_tag c k = 20) (hi : inb i (am_len c k)) : AW d 0 1231 L (.int i :: .ref k :: S) (c, a, r) Q = AW d 0 1232 L (.int (a k i.toNatClampNeg) :: S) (c, a, r) Q := AW_ald cdn_L_law rfl (by decide) ht hi
set_option maxRecDepth 20000 in
theorem st_L_law_1232 {d : Nat} {S : List Value} {h : am_H} {Q : Option Value → am_H → Prop} {l1 l2 l3 : Option Value} {x : Nat} : AW d 0 1232 [some (.ref x), l1, l2, l3] S h Q = AW d 0 1233 [some (.ref x), l1, l2, l3] (.ref x :: S) h Q := AW_n cdn_L_law rfl rfl
set_option maxRecDepth 20000 in
theorem st_L_law_1233 {d : Nat} {S : List Value} {h : am_H} {Q : Option Value → am_H → Prop} {l0 l1 l2 : Option Value} {x : Int32} : AW d 0 1233 [l0, l1, l2, some (.int x)] S h Q = AW d 0 1234 [l0, l1, l2, some (.int x)] (.int x :: S) h Q := AW_n cdn_L_law rfl rfl
set_option maxRecDepth 20000 in
theorem st_L_law_1234 {d : Nat} {L : am_L} {S : List Value} {h : am_H} {Q : Option Value → am_H → Prop} : AW d 0 1234 L S h Q = AW d 0 1235 L (.int 3 :: S) h Q := AW_n cdn_L_law rfl rfl
set_option maxRecDepth 20000 in
theorem st_L_law_1235 {d : Nat} {L : am_L} {S : List Value} {h : am_H} {Q : Option Value → am_H → Prop} {x y : Int32} : AW d 0 1235 L (.int y :: .int x :: S) h Q = AW d 0 1236 L (.int (x + y) :: S) h Q := AW_n cdn_L_law rfl rfl
set_option maxRecDepth 20000 in
theorem st_L_law_1236 {d : Nat} {L : am_L} {S : List Value} {Q : Option Value → am_H → Prop} {c : List (Nat × Nat)} {a : Nat → Nat → Int32} {r : Nat → Nat → Option Nat} {i : Int32} {k : Nat} (ht : am_tag c k = 20) (hi : inb i (am_len c k)) : AW d 0 1236 L (.int i :: .ref k :: S) (c, a, r) Q = AW d 0 1237 L (.int (a k i.toNatClampNeg) :: S) (c, a, r) Q := AW_ald cdn_L_law rfl (by decide) ht hi
set_option maxRecDepth 20000 in
theorem st_L_law_1237 {d : Nat} {L : am_L} {S : List Value} {Q : Option Value → am_H → Prop} {c : List (Nat × Nat)} {a : Nat → Nat → Int32} {r : Nat → Nat → Option Nat} {k : Nat} {x1 : Int32} {x2 : Int32} {x3 : Int32} (ht : am_tag c k = 10) (hS : (S.map fun v => v.category).sum ≤ 8) : AW (d + 1) 0 1237 L (.int x3 :: .int x2 :: .int x1 :: .ref k :: S) (c, a, r) Q = CALL d 189 [.ref k, .int x1, .int x2, .int x3] (c, a, r) (fun v h9 => AW (d + 1) 0 1240 L (v.toList ++ S) h9 Q) := AW_invV (n := 3) (t := [.int x3, .int x2, .int x1]) cdn_L_law rfl (by decide) (Nat.le_of_ble_eq_true rfl) rfl rfl ht hS
set_option maxRecDepth 20000 in
theorem st_L_law_1240 {d : Nat} {L : am_L} {S : List Value} {h : am_H} {Q : Option Value → am_H → Prop} {x y : Int32} : AW d 0 1240 L (.int y :: .int x :: S) h Q = if x = y then AW d 0 1579 L S h Q else AW d 0 1243 L S h Q := AW_if cdn_L_law rfl rfl
set_option maxRecDepth 20000 in
theorem st_L_law_1243 {d : Nat} {L : am_L} {S : List Value} {h : am_H} {Q : Option Value → am_H → Prop} : AW d 0 1243 L S h Q = AW d 0 1244 L (.int 0 :: S) h Q := AW_n cdn_L_law rfl rfl
set_option maxRecDepth 20000 in
theorem st_L_law_1244 {d : Nat} {L : am_L} {h : am_H} {Q : Option Value → am_H → Prop} {x : Int32} (hx : x = 0 ∨ x = 1) : AW d 0 1244 L [.int x] h Q = Q (some (.int x)) h := AW_zret cdn_L_law rfl hx
set_option maxRecDepth 20000 in
theorem st_L_law_1245 {d : Nat} {S : List Value} {h : am_H} {Q : Option Value → am_H → Prop} {l0 l2 l3 : Option Value} {x : Nat} : AW d 0 1245 [l0, some (.ref x), l2, l3] S h Q = AW d 0 1246 [l0, some (.ref x), l2, l3] (.ref x :: S) h Q := AW_n cdn_L_law rfl rfl
set_option maxRecDepth 20000 in
theorem st_L_law_1246 {d : Nat} {S : List Value} {h : am_H} {Q : Option Value → am_H → Prop} {l1 l2 l3 : Option Value} {x : Nat} : AW d 0 1246 [some (.ref x), l1, l2, l3] S h Q = AW d 0 1247 [some (.ref x), l1, l2, l3] (.ref x :: S) h Q := AW_n cdn_L_law rfl rfl
set_option maxRecDepth 20000 in
theorem st_L_law_1247 {d : Nat} {S : List Value} {h : am_H} {Q : Option Value → am_H → Prop} {l0 l1 l2 : Option Value} {x : Int32} : AW d 0 1247 [l0, l1, l2, some (.int x)] S h Q = AW d 0 1248 [l0, l1, l2, some (.int x)] (.int x :: S) h Q := AW_n cdn_L_law rfl rfl
set_option maxRecDepth 20000 in
theorem st_L_law_1248 {d : Nat} {L : am_L} {S : List Value} {h : am_H} {Q : Option Value → am_H → Prop} : AW d 0 1248 L S h Q = AW d 0 1249 L (.int 1 :: S) h Q := AW_n cdn_L_law rfl rfl
set_option maxRecDepth 20000 in
theorem st_L_law_1249 {d : Nat} {L : am_L} {S : List Value} {h : am_H} {Q : Option Value → am_H → Prop} {x y : Int32} : AW d 0 1249 L (.int y :: .int x :: S) h Q = AW d 0 1250 L (.int (x + y) :: S) h Q := AW_n cdn_L_law rfl rfl
set_option maxRecDepth 20000 in
theorem st_L_law_1250 {d : Nat} {L : am_L} {S : List Value} {Q : Option Value → am_H → Prop} {c : List (Nat × Nat)} {a : Nat → Nat → Int32} {r : Nat → Nat → Option Nat} {i : Int32} {k : Nat} (ht : am_tag c k = 20) (hi : inb i (am_len c k)) : AW d 0 1250 L (.int i :: .ref k :: S) (c, a, r) Q = AW d 0 1251 L (.int (a k i.toNatClampNeg) :: S) (c, a, r) Q := AW_ald cdn_L_law rfl (by decide) ht hi
set_option maxRecDepth 20000 in
theorem st_L_law_1251 {d : Nat} {L : am_L} {S : List Value} {Q : Option Value → am_H → Prop} {c : List (Nat × Nat)} {a : Nat → Nat → Int32} {r : Nat → Nat → Option Nat} {k : Nat} {x1 : Int32} (ht : am_tag c k = 9) (hS : (S.map fun v => v.category).sum ≤ 8) : AW (d + 1) 0 1251 L (.int x1 :: .ref k :: S) (c, a, r) Q = CALL d 101 [.ref k, .int x1] (c, a, r) (fun v h9 => AW (d + 1) 0 1254 L (v.toList ++ S) h9 Q) := AW_invV (n := 1) (t := [.int x1]) cdn_L_law rfl (by decide) (Nat.le_of_ble_eq_true rfl) rfl rfl ht hS
set_option maxRecDepth 20000 in
theorem st_L_law_1254 {d : Nat} {S : List Value} {h : am_H} {Q : Option Value → am_H → Prop} {l0 l1 l3 : Option Value} {x : Nat} : AW d 0 1254 [l0, l1, some (.ref x), l3] S h Q = AW d 0 1255 [l0, l1, some (.ref x), l3] (.ref x :: S) h Q := AW_n cdn_L_law rfl rfl
set_option maxRecDepth 20000 in
theorem st_L_law_1255 {d : Nat} {S : List Value} {h : am_H} {Q : Option Value → am_H → Prop} {l1 l2 l3 : Option Value} {x : Nat} : AW d 0 1255 [some (.ref x), l1, l2, l3] S h Q = AW d 0 1256 [some (.ref x), l1, l2, l3] (.ref x :: S) h Q := AW_n cdn_L_law rfl rfl
set_option maxRecDepth 20000 in
theorem st_L_law_1256 {d : Nat} {S : List Value} {h : am_H} {Q : Option Value → am_H → Prop} {l0 l1 l2 : Option Value} {x : Int32} : AW d 0 1256 [l0, l1, l2, some (.int x)] S h Q = AW d 0 1257 [l0, l1, l2, some (.int x)] (.int x :: S) h Q := AW_n cdn_L_law rfl rfl
set_option maxRecDepth 20000 in
theorem st_L_law_1257 {d : Nat} {L : am_L} {S : List Value} {h : am_H} {Q : Option Value → am_H → Prop} : AW d 0 1257 L S h Q = AW d 0 1258 L (.int 1 :: S) h Q := AW_n cdn_L_law rfl rfl
set_option maxRecDepth 20000 in
theorem st_L_law_1258 {d : Nat} {L : am_L} {S : List Value} {h : am_H} {Q : Option Value → am_H → Prop} {x y : Int32} : AW d 0 1258 L (.int y :: .int x :: S) h Q = AW d 0 1259 L (.int (x + y) :: S) h Q := AW_n cdn_L_law rfl rfl
set_option maxRecDepth 20000 in
theorem st_L_law_1259 {d : Nat} {L : am_L} {S : List Value} {Q : Option Value → am_H → Prop} {c : List (Nat × Nat)} {a : Nat → Nat → Int32} {r : Nat → Nat → Option Nat} {i : Int32} {k : Nat} (ht : am_tag c k = 20) (hi : inb i (am_len c k)) : AW d 0 1259 L (.int i :: .ref k :: S) (c, a, r) Q = AW d 0 1260 L (.int (a k i.toNatClampNeg) :: S) (c, a, r) Q := AW_ald cdn_L_law rfl (by decide) ht hi
set_option maxRecDepth 20000 in
theorem st_L_law_1260 {d : Nat} {L : am_L} {S : List Value} {Q : Option Value → am_H → Prop} {c : List (Nat × Nat)} {a : Nat → Nat → Int32} {r : Nat → Nat → Option Nat} {k : Nat} {x1 : Int32} (ht : am_tag c k = 10) (hS : (S.map fun v => v.category).sum ≤ 8) : AW (d + 1) 0 1260 L (.int x1 :: .ref k :: S) (c, a, r) Q = CALL d 190 [.ref k, .int x1] (c, a, r) (fun v h9 => AW (d + 1) 0 1263 L (v.toList ++ S) h9 Q) := AW_invV (n := 1) (t := [.int x1]) cdn_L_law rfl (by decide) (Nat.le_of_ble_eq_true rfl) rfl rfl ht hS
set_option maxRecDepth 20000 in
theorem st_L_law_1263 {d : Nat} {L : am_L} {S : List Value} {h : am_H} {Q : Option Value → am_H → Prop} {x y : Int32} : AW d 0 1263 L (.int y :: .int x :: S) h Q = if x = y then AW d 0 1579 L S h Q else AW d 0 1266 L S h Q := AW_if cdn_L_law rfl rfl
set_option maxRecDepth 20000 in
theorem st_L_law_1266 {d : Nat} {L : am_L} {S : List Value} {h : am_H} {Q : Option Value → am_H → Prop} : AW d 0 1266 L S h Q = AW d 0 1267 L (.int 0 :: S) h Q := AW_n cdn_L_law rfl rfl
set_option maxRecDepth 20000 in
theorem st_L_law_1267 {d : Nat} {L : am_L} {h : am_H} {Q : Option Value → am_H → Prop} {x : Int32} (hx : x = 0 ∨ x = 1) : AW d 0 1267 L [.int x] h Q = Q (some (.int x)) h := AW_zret cdn_L_law rfl hx
set_option maxRecDepth 20000 in
theorem st_L_law_1268 {d : Nat} {S : List Value} {h : am_H} {Q : Option Value → am_H → Prop} {l0 l2 l3 : Option Value} {x : Nat} : AW d 0 1268 [l0, some (.ref x), l2, l3] S h Q = AW d 0 1269 [l0, some (.ref x), l2, l3] (.ref x :: S) h Q := AW_n cdn_L_law rfl rfl
set_option maxRecDepth 20000 in
theorem st_L_law_1269 {d : Nat} {S : List Value} {h : am_H} {Q : Option Value → am_H → Prop} {l1 l2 l3 : Option Value} {x : Nat} : AW d 0 1269 [some (.ref x), l1, l2, l3] S h Q = AW d 0 1270 [some (.ref x), l1, l2, l3] (.ref x :: S) h Q := AW_n cdn_L_law rfl rfl
set_option maxRecDepth 20000 in
theorem st_L_law_1270 {d : Nat} {S : List Value} {h : am_H} {Q : Option Value → am_H → Prop} {l0 l1 l2 : Option Value} {x : Int32} : AW d 0 1270 [l0, l1, l2, some (.int x)] S h Q = AW d 0 1271 [l0, l1, l2, some (.int x)] (.int x :: S) h Q := AW_n cdn_L_law rfl rfl
set_option maxRecDepth 20000 in
theorem st_L_law_1271 {d : Nat} {L : am_L} {S : List Value} {h : am_H} {Q : Option Value → am_H → Prop} : AW d 0 1271 L S h Q = AW d 0 1272 L (.int 1 :: S) h Q := AW_n cdn_L_law rfl rfl
set_option maxRecDepth 20000 in
theorem st_L_law_1272 {d : Nat} {L : am_L} {S : List Value} {h : am_H} {Q : Option Value → am_H → Prop} {x y : Int32} : AW d 0 1272 L (.int y :: .int x :: S) h Q = AW d 0 1273 L (.int (x + y) :: S) h Q := AW_n cdn_L_law rfl rfl
set_option maxRecDepth 20000 in
theorem st_L_law_1273 {d : Nat} {L : am_L} {S : List Value} {Q : Option Value → am_H → Prop} {c : List (Nat × Nat)} {a : Nat → Nat → Int32} {r : Nat → Nat → Option Nat} {i : Int32} {k : Nat} (ht : am_tag c k = 20) (hi : inb i (am_len c k)) : AW d 0 1273 L (.int i :: .ref k :: S) (c, a, r) Q = AW d 0 1274 L (.int (a k i.toNatClampNeg) :: S) (c, a, r) Q := AW_ald cdn_L_law rfl (by decide) ht hi
set_option maxRecDepth 20000 in
theorem st_L_law_1274 {d : Nat} {S : List Value} {h : am_H} {Q : Option Value → am_H → Prop} {l1 l2 l3 : Option Value} {x : Nat} : AW d 0 1274 [some (.ref x), l1, l2, l3] S h Q = AW d 0 1275 [some (.ref x), l1, l2, l3] (.ref x :: S) h Q := AW_n cdn_L_law rfl rfl
set_option maxRecDepth 20000 in
theorem st_L_law_1275 {d : Nat} {S : List Value} {h : am_H} {Q : Option Value → am_H → Prop} {l0 l1 l2 : Option Value} {x : Int32} : AW d 0 1275 [l0, l1, l2, some (.int x)] S h Q = AW d 0 1276 [l0, l1, l2, some (.int x)] (.int x :: S) h Q := AW_n cdn_L_law rfl rfl
set_option maxRecDepth 20000 in
theorem st_L_law_1276 {d : Nat} {L : am_L} {S : List Value} {h : am_H} {Q : Option Value → am_H → Prop} : AW d 0 1276 L S h Q = AW d 0 1277 L (.int 2 :: S) h Q := AW_n cdn_L_law rfl rfl
set_option maxRecDepth 20000 in
theorem st_L_law_1277 {d : Nat} {L : am_L} {S : List Value} {h : am_H} {Q : Option Value → am_H → Prop} {x y : Int32} : AW d 0 1277 L (.int y :: .int x :: S) h Q = AW d 0 1278 L (.int (x + y) :: S) h Q := AW_n cdn_L_law rfl rfl
set_option maxRecDepth 20000 in
theorem st_L_law_1278 {d : Nat} {L : am_L} {S : List Value} {Q : Option Value → am_H → Prop} {c : List (Nat × Nat)} {a : Nat → Nat → Int32} {r : Nat → Nat → Option Nat} {i : Int32} {k : Nat} (ht : am_tag c k = 20) (hi : inb i (am_len c k)) : AW d 0 1278 L (.int i :: .ref k :: S) (c, a, r) Q = AW d 0 1279 L (.int (a k i.toNatClampNeg) :: S) (c, a, r) Q := AW_ald cdn_L_law rfl (by decide) ht hi
set_option maxRecDepth 20000 in
theorem st_L_law_1279 {d : Nat} {L : am_L} {S : List Value} {Q : Option Value → am_H → Prop} {c : List (Nat × Nat)} {a : Nat → Nat → Int32} {r : Nat → Nat → Option Nat} {k : Nat} {x1 : Int32} {x2 : Int32} (ht : am_tag c k = 9) (hS : (S.map fun v => v.category).sum ≤ 8) : AW (d + 1) 0 1279 L (.int x2 :: .int x1 :: .ref k :: S) (c, a, r) Q = CALL d 102 [.ref k, .int x1, .int x2] (c, a, r) (fun v h9 => AW (d + 1) 0 1282 L (v.toList ++ S) h9 Q) := AW_invV (n := 2) (t := [.int x2, .int x1]) cdn_L_law rfl (by decide) (Nat.le_of_ble_eq_true rfl) rfl rfl ht hS
set_option maxRecDepth 20000 in
theorem st_L_law_1282 {d : Nat} {S : List Value} {h : am_H} {Q : Option Value → am_H → Prop} {l0 l1 l3 : Option Value} {x : Nat} : AW d 0 1282 [l0, l1, some (.ref x), l3] S h Q = AW d 0 1283 [l0, l1, some (.ref x), l3] (.ref x :: S) h Q := AW_n cdn_L_law rfl rfl
set_option maxRecDepth 20000 in
theorem st_L_law_1283 {d : Nat} {S : List Value} {h : am_H} {Q : Option Value → am_H → Prop} {l1 l2 l3 : Option Value} {x : Nat} : AW d 0 1283 [some (.ref x), l1, l2, l3] S h Q = AW d 0 1284 [some (.ref x), l1, l2, l3] (.ref x :: S) h Q := AW_n cdn_L_law rfl rfl
set_option maxRecDepth 20000 in
theorem st_L_law_1284 {d : Nat} {S : List Value} {h : am_H} {Q : Option Value → am_H → Prop} {l0 l1 l2 : Option Value} {x : Int32} : AW d 0 1284 [l0, l1, l2, some (.int x)] S h Q = AW d 0 1285 [l0, l1, l2, some (.int x)] (.int x :: S) h Q := AW_n cdn_L_law rfl rfl
set_option maxRecDepth 20000 in
theorem st_L_law_1285 {d : Nat} {L : am_L} {S : List Value} {h : am_H} {Q : Option Value → am_H → Prop} : AW d 0 1285 L S h Q = AW d 0 1286 L (.int 1 :: S) h Q := AW_n cdn_L_law rfl rfl
set_option maxRecDepth 20000 in
theorem st_L_law_1286 {d : Nat} {L : am_L} {S : List Value} {h : am_H} {Q : Option Value → am_H → Prop} {x y : Int32} : AW d 0 1286 L (.int y :: .int x :: S) h Q = AW d 0 1287 L (.int (x + y) :: S) h Q := AW_n cdn_L_law rfl rfl
set_option maxRecDepth 20000 in
theorem st_L_law_1287 {d : Nat} {L : am_L} {S : List Value} {Q : Option Value → am_H → Prop} {c : List (Nat × Nat)} {a : Nat → Nat → Int32} {r : Nat → Nat → Option Nat} {i : Int32} {k : Nat} (ht : am_tag c k = 20) (hi : inb i (am_len c k)) : AW d 0 1287 L (.int i :: .ref k :: S) (c, a, r) Q = AW d 0 1288 L (.int (a k i.toNatClampNeg) :: S) (c, a, r) Q := AW_ald cdn_L_law rfl (by decide) ht hi
set_option maxRecDepth 20000 in
theorem st_L_law_1288 {d : Nat} {S : List Value} {h : am_H} {Q : Option Value → am_H → Prop} {l1 l2 l3 : Option Value} {x : Nat} : AW d 0 1288 [some (.ref x), l1, l2, l3] S h Q = AW d 0 1289 [some (.ref x), l1, l2, l3] (.ref x :: S) h Q := AW_n cdn_L_law rfl rfl
set_option maxRecDepth 20000 in
theorem st_L_law_1289 {d : Nat} {S : List Value} {h : am_H} {Q : Option Value → am_H → Prop} {l0 l1 l2 : Option Value} {x : Int32} : AW d 0 1289 [l0, l1, l2, some (.int x)] S h Q = AW d 0 1290 [l0, l1, l2, some (.int x)] (.int x :: S) h Q := AW_n cdn_L_law rfl rfl
set_option maxRecDepth 20000 in
theorem st_L_law_1290 {d : Nat} {L : am_L} {S : List Value} {h : am_H} {Q : Option Value → am_H → Prop} : AW d 0 1290 L S h Q = AW d 0 1291 L (.int 2 :: S) h Q := AW_n cdn_L_law rfl rfl
set_option maxRecDepth 20000 in
theorem st_L_law_1291 {d : Nat} {L : am_L} {S : List Value} {h : am_H} {Q : Option Value → am_H → Prop} {x y : Int32} : AW d 0 1291 L (.int y :: .int x :: S) h Q = AW d 0 1292 L (.int (x + y) :: S) h Q := AW_n cdn_L_law rfl rfl
set_option maxRecDepth 20000 in
theorem st_L_law_1292 {d : Nat} {L : am_L} {S : List Value} {Q : Option Value → am_H → Prop} {c : List (Nat × Nat)} {a : Nat → Nat → Int32} {r : Nat → Nat → Option Nat} {i : Int32} {k : Nat} (ht : am_tag c k = 20) (hi : inb i (am_len c k)) : AW d 0 1292 L (.int i :: .ref k :: S) (c, a, r) Q = AW d 0 1293 L (.int (a k i.toNatClampNeg) :: S) (c, a, r) Q := AW_ald cdn_L_law rfl (by decide) ht hi
set_option maxRecDepth 20000 in
theorem st_L_law_1293 {d : Nat} {L : am_L} {S : List Value} {Q : Option Value → am_H → Prop} {c : List (Nat × Nat)} {a : Nat → Nat → Int32} {r : Nat → Nat → Option Nat} {k : Nat} {x1 : Int32} {x2 : Int32} (ht : am_tag c k = 10) (hS : (S.map fun v => v.category).sum ≤ 8) : AW (d + 1) 0 1293 L (.int x2 :: .int x1 :: .ref k :: S) (c, a, r) Q = CALL d 192 [.ref k, .int x1, .int x2] (c, a, r) (fun v h9 => AW (d + 1) 0 1296 L (v.toList ++ S) h9 Q) := AW_invV (n := 2) (t := [.int x2, .int x1]) cdn_L_law rfl (by decide) (Nat.le_of_ble_eq_true rfl) rfl rfl ht hS
set_option maxRecDepth 20000 in
theorem st_L_law_1296 {d : Nat} {L : am_L} {S : List Value} {h : am_H} {Q : Option Value → am_H → Prop} {x y : Int32} : AW d 0 1296 L (.int y :: .int x :: S) h Q = if x = y then AW d 0 1579 L S h Q else AW d 0 1299 L S h Q := AW_if cdn_L_law rfl rfl
set_option maxRecDepth 20000 in
theorem st_L_law_1299 {d : Nat} {L : am_L} {S : List Value} {h : am_H} {Q : Option Value → am_H → Prop} : AW d 0 1299 L S h Q = AW d 0 1300 L (.int 0 :: S) h Q := AW_n cdn_L_law rfl rfl
set_option maxRecDepth 20000 in
theorem st_L_law_1300 {d : Nat} {L : am_L} {h : am_H} {Q : Option Value → am_H → Prop} {x : Int32} (hx : x = 0 ∨ x = 1) : AW d 0 1300 L [.int x] h Q = Q (some (.int x)) h := AW_zret cdn_L_law rfl hx
set_option maxRecDepth 20000 in
theorem st_L_law_1301 {d : Nat} {S : List Value} {h : am_H} {Q : Option Value → am_H → Prop} {l0 l2 l3 : Option Value} {x : Nat} : AW d 0 1301 [l0, some (.ref x), l2, l3] S h Q = AW d 0 1302 [l0, some (.ref x), l2, l3] (.ref x :: S) h Q := AW_n cdn_L_law rfl rfl
set_option maxRecDepth 20000 in
theorem st_L_law_1302 {d : Nat} {S : List Value} {h : am_H} {Q : Option Value → am_H → Prop} {l1 l2 l3 : Option Value} {x : Nat} : AW d 0 1302 [some (.ref x), l1, l2, l3] S h Q = AW d 0 1303 [some (.ref x), l1, l2, l3] (.ref x :: S) h Q := AW_n cdn_L_law rfl rfl
set_option maxRecDepth 20000 in
theorem st_L_law_1303 {d : Nat} {S : List Value} {h : am_H} {Q : Option Value → am_H → Prop} {l0 l1 l2 : Option Value} {x : Int32} : AW d 0 1303 [l0, l1, l2, some (.int x)] S h Q = AW d 0 1304 [l0, l1, l2, some (.int x)] (.int x :: S) h Q := AW_n cdn_L_law rfl rfl
set_option maxRecDepth 20000 in
theorem st_L_law_1304 {d : Nat} {L : am_L} {S : List Value} {h : am_H} {Q : Option Value → am_H → Prop} : AW d 0 1304 L S h Q = AW d 0 1305 L (.int 1 :: S) h Q := AW_n cdn_L_law rfl rfl
set_option maxRecDepth 20000 in
theorem st_L_law_1305 {d : Nat} {L : am_L} {S : List Value} {h : am_H} {Q : Option Value → am_H → Prop} {x y : Int32} : AW d 0 1305 L (.int y :: .int x :: S) h Q = AW d 0 1306 L (.int (x + y) :: S) h Q := AW_n cdn_L_law rfl rfl
set_option maxRecDepth 20000 in
theorem st_L_law_1306 {d : Nat} {L : am_L} {S : List Value} {Q : Option Value → am_H → Prop} {c : List (Nat × Nat)} {a : Nat → Nat → Int32} {r : Nat → Nat → Option Nat} {i : Int32} {k : Nat} (ht : am_tag c k = 20) (hi : inb i (am_len c k)) : AW d 0 1306 L (.int i :: .ref k :: S) (c, a, r) Q = AW d 0 1307 L (.int (a k i.toNatClampNeg) :: S) (c, a, r) Q := AW_ald cdn_L_law rfl (by decide) ht hi
set_option maxRecDepth 20000 in
theorem st_L_law_1307 {d : Nat} {S : List Value} {h : am_H} {Q : Option Value → am_H → Prop} {l1 l2 l3 : Option Value} {x : Nat} : AW d 0 1307 [some (.ref x), l1, l2, l3] S h Q = AW d 0 1308 [some (.ref x), l1, l2, l3] (.ref x :: S) h Q := AW_n cdn_L_law rfl rfl
set_option maxRecDepth 20000 in
theorem st_L_law_1308 {d : Nat} {S : List Value} {h : am_H} {Q : Option Value → am_H → Prop} {l0 l1 l2 : Option Value} {x : Int32} : AW d 0 1308 [l0, l1, l2, some (.int x)] S h Q = AW d 0 1309 [l0, l1, l2, some (.int x)] (.int x :: S) h Q := AW_n cdn_L_law rfl rfl
set_option maxRecDepth 20000 in
theorem st_L_law_1309 {d : Nat} {L : am_L} {S : List Value} {h : am_H} {Q : Option Value → am_H → Prop} : AW d 0 1309 L S h Q = AW d 0 1310 L (.int 2 :: S) h Q := AW_n cdn_L_law rfl rfl
set_option maxRecDepth 20000 in
theorem st_L_law_1310 {d : Nat} {L : am_L} {S : List Value} {h : am_H} {Q : Option Value → am_H → Prop} {x y : Int32} : AW d 0 1310 L (.int y :: .int x :: S) h Q = AW d 0 1311 L (.int (x + y) :: S) h Q := AW_n cdn_L_law rfl rfl
set_option maxRecDepth 20000 in
theorem st_L_law_1311 {d : Nat} {L : am_L} {S : List Value} {Q : Option Value → am_H → Prop} {c : List (Nat × Nat)} {a : Nat → Nat → Int32} {r : Nat → Nat → Option Nat} {i : Int32} {k : Nat} (ht : am_tag c k = 20) (hi : inb i (am_len c k)) : AW d 0 1311 L (.int i :: .ref k :: S) (c, a, r) Q = AW d 0 1312 L (.int (a k i.toNatClampNeg) :: S) (c, a, r) Q := AW_ald cdn_L_law rfl (by decide) ht hi
set_option maxRecDepth 20000 in
theorem st_L_law_1312 {d : Nat} {S : List Value} {h : am_H} {Q : Option Value → am_H → Prop} {l1 l2 l3 : Option Value} {x : Nat} : AW d 0 1312 [some (.ref x), l1, l2, l3] S h Q = AW d 0 1313 [some (.ref x), l1, l2, l3] (.ref x :: S) h Q := AW_n cdn_L_law rfl rfl
set_option maxRecDepth 20000 in
theorem st_L_law_1313 {d : Nat} {S : List Value} {h : am_H} {Q : Option Value → am_H → Prop} {l0 l1 l2 : Option Value} {x : Int32} : AW d 0 1313 [l0, l1, l2, some (.int x)] S h Q = AW d 0 1314 [l0, l1, l2, some (.int x)] (.int x :: S) h Q := AW_n cdn_L_law rfl rfl
set_option maxRecDepth 20000 in
theorem st_L_law_1314 {d : Nat} {L : am_L} {S : List Value} {h : am_H} {Q : Option Value → am_H → Prop} : AW d 0 1314 L S h Q = AW d 0 1315 L (.int 3 :: S) h Q := AW_n cdn_L_law rfl rfl
set_option maxRecDepth 20000 in
theorem st_L_law_1315 {d : Nat} {L : am_L} {S : List Value} {h : am_H} {Q : Option Value → am_H → Prop} {x y : Int32} : AW d 0 1315 L (.int y :: .int x :: S) h Q = AW d 0 1316 L (.int (x + y) :: S) h Q := AW_n cdn_L_law rfl rfl
set_option maxRecDepth 20000 in
theorem st_L_law_1316 {d : Nat} {L : am_L} {S : List Value} {Q : Option Value → am_H → Prop} {c : List (Nat × Nat)} {a : Nat → Nat → Int32} {r : Nat → Nat → Option Nat} {i : Int32} {k : Nat} (ht : am_tag c k = 20) (hi : inb i (am_len c k)) : AW d 0 1316 L (.int i :: .ref k :: S) (c, a, r) Q = AW d 0 1317 L (.int (a k i.toNatClampNeg) :: S) (c, a, r) Q := AW_ald cdn_L_law rfl (by decide) ht hi
set_option maxRecDepth 20000 in
theorem st_L_law_1317 {d : Nat} {S : List Value} {h : am_H} {Q : Option Value → am_H → Prop} {l1 l2 l3 : Option Value} {x : Nat} : AW d 0 1317 [some (.ref x), l1, l2, l3] S h Q = AW d 0 1318 [some (.ref x), l1, l2, l3] (.ref x :: S) h Q := AW_n cdn_L_law rfl rfl
set_option maxRecDepth 20000 in
theorem st_L_law_1318 {d : Nat} {S : List Value} {h : am_H} {Q : Option Value → am_H → Prop} {l0 l1 l2 : Option Value} {x : Int32} : AW d 0 1318 [l0, l1, l2, some (.int x)] S h Q = AW d 0 1319 [l0, l1, l2, some (.int x)] (.int x :: S) h Q := AW_n cdn_L_law rfl rfl
set_option maxRecDepth 20000 in
theorem st_L_law_1319 {d : Nat} {L : am_L} {S : List Value} {h : am_H} {Q : Option Value → am_H → Prop} : AW d 0 1319 L S h Q = AW d 0 1320 L (.int 4 :: S) h Q := AW_n cdn_L_law rfl rfl
set_option maxRecDepth 20000 in
theorem st_L_law_1320 {d : Nat} {L : am_L} {S : List Value} {h : am_H} {Q : Option Value → am_H → Prop} {x y : Int32} : AW d 0 1320 L (.int y :: .int x :: S) h Q = AW d 0 1321 L (.int (x + y) :: S) h Q := AW_n cdn_L_law rfl rfl
set_option maxRecDepth 20000 in
theorem st_L_law_1321 {d : Nat} {L : am_L} {S : List Value} {Q : Option Value → am_H → Prop} {c : List (Nat × Nat)} {a : Nat → Nat → Int32} {r : Nat → Nat → Option Nat} {i : Int32} {k : Nat} (ht : am_tag c k = 20) (hi : inb i (am_len c k)) : AW d 0 1321 L (.int i :: .ref k :: S) (c, a, r) Q = AW d 0 1322 L (.int (a k i.toNatClampNeg) :: S) (c, a, r) Q := AW_ald cdn_L_law rfl (by decide) ht hi
set_option maxRecDepth 20000 in
theorem st_L_law_1322 {d : Nat} {S : List Value} {h : am_H} {Q : Option Value → am_H → Prop} {l1 l2 l3 : Option Value} {x : Nat} : AW d 0 1322 [some (.ref x), l1, l2, l3] S h Q = AW d 0 1323 [some (.ref x), l1, l2, l3] (.ref x :: S) h Q := AW_n cdn_L_law rfl rfl
set_option maxRecDepth 20000 in
theorem st_L_law_1323 {d : Nat} {S : List Value} {h : am_H} {Q : Option Value → am_H → Prop} {l0 l1 l2 : Option Value} {x : Int32} : AW d 0 1323 [l0, l1, l2, some (.int x)] S h Q = AW d 0 1324 [l0, l1, l2, some (.int x)] (.int x :: S) h Q := AW_n cdn_L_law rfl rfl
set_option maxRecDepth 20000 in
theorem st_L_law_1324 {d : Nat} {L : am_L} {S : List Value} {h : am_H} {Q : Option Value → am_H → Prop} : AW d 0 1324 L S h Q = AW d 0 1325 L (.int 5 :: S) h Q := AW_n cdn_L_law rfl rfl
set_option maxRecDepth 20000 in
theorem st_L_law_1325 {d : Nat} {L : am_L} {S : List Value} {h : am_H} {Q : Option Value → am_H → Prop} {x y : Int32} : AW d 0 1325 L (.int y :: .int x :: S) h Q = AW d 0 1326 L (.int (x + y) :: S) h Q := AW_n cdn_L_law rfl rfl
set_option maxRecDepth 20000 in
theorem st_L_law_1326 {d : Nat} {L : am_L} {S : List Value} {Q : Option Value → am_H → Prop} {c : List (Nat × Nat)} {a : Nat → Nat → Int32} {r : Nat → Nat → Option Nat} {i : Int32} {k : Nat} (ht : am_tag c k = 20) (hi : inb i (am_len c k)) : AW d 0 1326 L (.int i :: .ref k :: S) (c, a, r) Q = AW d 0 1327 L (.int (a k i.toNatClampNeg) :: S) (c, a, r) Q := AW_ald cdn_L_law rfl (by decide) ht hi
set_option maxRecDepth 20000 in
theorem st_L_law_1327 {d : Nat} {L : am_L} {S : List Value} {Q : Option Value → am_H → Prop} {c : List (Nat × Nat)} {a : Nat → Nat → Int32} {r : Nat → Nat → Option Nat} {k : Nat} {x1 : Int32} {x2 : Int32} {x3 : Int32} {x4 : Int32} {x5 : Int32} (ht : am_tag c k = 9) (hS : (S.map fun v => v.category).sum ≤ 8) : AW (d + 1) 0 1327 L (.int x5 :: .int x4 :: .int x3 :: .int x2 :: .int x1 :: .ref k :: S) (c, a, r) Q = CALL d 103 [.ref k, .int x1, .int x2, .int x3, .int x4, .int x5] (c, a, r) (fun v h9 => AW (d + 1) 0 1330 L (v.toList ++ S) h9 Q) := AW_invV (n := 5) (t := [.int x5, .int x4, .int x3, .int x2, .int x1]) cdn_L_law rfl (by decide) (Nat.le_of_ble_eq_true rfl) rfl rfl ht hS
set_option maxRecDepth 20000 in
theorem st_L_law_1330 {d : Nat} {S : List Value} {h : am_H} {Q : Option Value → am_H → Prop} {l0 l1 l3 : Option Value} {x : Nat} : AW d 0 1330 [l0, l1, some (.ref x), l3] S h Q = AW d 0 1331 [l0, l1, some (.ref x), l3] (.ref x :: S) h Q := AW_n cdn_L_law rfl rfl
set_option maxRecDepth 20000 in
theorem st_L_law_1331 {d : Nat} {S : List Value} {h : am_H} {Q : Option Value → am_H → Prop} {l1 l2 l3 : Option Value} {x : Nat} : AW d 0 1331 [some (.ref x), l1, l2, l3] S h Q = AW d 0 1332 [some (.ref x), l1, l2, l3] (.ref x :: S) h Q := AW_n cdn_L_law rfl rfl
set_option maxRecDepth 20000 in
theorem st_L_law_1332 {d : Nat} {S : List Value} {h : am_H} {Q : Option Value → am_H → Prop} {l0 l1 l2 : Option Value} {x : Int32} : AW d 0 1332 [l0, l1, l2, some (.int x)] S h Q = AW d 0 1333 [l0, l1, l2, some (.int x)] (.int x :: S) h Q := AW_n cdn_L_law rfl rfl
set_option maxRecDepth 20000 in
theorem st_L_law_1333 {d : Nat} {L : am_L} {S : List Value} {h : am_H} {Q : Option Value → am_H → Prop} : AW d 0 1333 L S h Q = AW d 0 1334 L (.int 1 :: S) h Q := AW_n cdn_L_law rfl rfl
set_option maxRecDepth 20000 in
theorem st_L_law_1334 {d : Nat} {L : am_L} {S : List Value} {h : am_H} {Q : Option Value → am_H → Prop} {x y : Int32} : AW d 0 1334 L (.int y :: .int x :: S) h Q = AW d 0 1335 L (.int (x + y) :: S) h Q := AW_n cdn_L_law rfl rfl
set_option maxRecDepth 20000 in
theorem st_L_law_1335 {d : Nat} {L : am_L} {S : List Value} {Q : Option Value → am_H → Prop} {c : List (Nat × Nat)} {a : Nat → Nat → Int32} {r : Nat → Nat → Option Nat} {i : Int32} {k : Nat} (ht : am_tag c k = 20) (hi : inb i (am_len c k)) : AW d 0 1335 L (.int i :: .ref k :: S) (c, a, r) Q = AW d 0 1336 L (.int (a k i.toNatClampNeg) :: S) (c, a, r) Q := AW_ald cdn_L_law rfl (by decide) ht hi
set_option maxRecDepth 20000 in
theorem st_L_law_1336 {d : Nat} {S : List Value} {h : am_H} {Q : Option Value → am_H → Prop} {l1 l2 l3 : Option Value} {x : Nat} : AW d 0 1336 [some (.ref x), l1, l2, l3] S h Q = AW d 0 1337 [some (.ref x), l1, l2, l3] (.ref x :: S) h Q := AW_n cdn_L_law rfl rfl
set_option maxRecDepth 20000 in
theorem st_L_law_1337 {d : Nat} {S : List Value} {h : am_H} {Q : Option Value → am_H → Prop} {l0 l1 l2 : Option Value} {x : Int32} : AW d 0 1337 [l0, l1, l2, some (.int x)] S h Q = AW d 0 1338 [l0, l1, l2, some (.int x)] (.int x :: S) h Q := AW_n cdn_L_law rfl rfl
set_option maxRecDepth 20000 in
theorem st_L_law_1338 {d : Nat} {L : am_L} {S : List Value} {h : am_H} {Q : Option Value → am_H → Prop} : AW d 0 1338 L S h Q = AW d 0 1339 L (.int 2 :: S) h Q := AW_n cdn_L_law rfl rfl
set_option maxRecDepth 20000 in
theorem st_L_law_1339 {d : Nat} {L : am_L} {S : List Value} {h : am_H} {Q : Option Value → am_H → Prop} {x y : Int32} : AW d 0 1339 L (.int y :: .int x :: S) h Q = AW d 0 1340 L (.int (x + y) :: S) h Q := AW_n cdn_L_law rfl rfl
set_option maxRecDepth 20000 in
theorem st_L_law_1340 {d : Nat} {L : am_L} {S : List Value} {Q : Option Value → am_H → Prop} {c : List (Nat × Nat)} {a : Nat → Nat → Int32} {r : Nat → Nat → Option Nat} {i : Int32} {k : Nat} (ht : am_tag c k = 20) (hi : inb i (am_len c k)) : AW d 0 1340 L (.int i :: .ref k :: S) (c, a, r) Q = AW d 0 1341 L (.int (a k i.toNatClampNeg) :: S) (c, a, r) Q := AW_ald cdn_L_law rfl (by decide) ht hi
set_option maxRecDepth 20000 in
theorem st_L_law_1341 {d : Nat} {S : List Value} {h : am_H} {Q : Option Value → am_H → Prop} {l1 l2 l3 : Option Value} {x : Nat} : AW d 0 1341 [some (.ref x), l1, l2, l3] S h Q = AW d 0 1342 [some (.ref x), l1, l2, l3] (.ref x :: S) h Q := AW_n cdn_L_law rfl rfl
set_option maxRecDepth 20000 in
theorem st_L_law_1342 {d : Nat} {S : List Value} {h : am_H} {Q : Option Value → am_H → Prop} {l0 l1 l2 : Option Value} {x : Int32} : AW d 0 1342 [l0, l1, l2, some (.int x)] S h Q = AW d 0 1343 [l0, l1, l2, some (.int x)] (.int x :: S) h Q := AW_n cdn_L_law rfl rfl
set_option maxRecDepth 20000 in
theorem st_L_law_1343 {d : Nat} {L : am_L} {S : List Value} {h : am_H} {Q : Option Value → am_H → Prop} : AW d 0 1343 L S h Q = AW d 0 1344 L (.int 3 :: S) h Q := AW_n cdn_L_law rfl rfl
set_option maxRecDepth 20000 in
theorem st_L_law_1344 {d : Nat} {L : am_L} {S : List Value} {h : am_H} {Q : Option Value → am_H → Prop} {x y : Int32} : AW d 0 1344 L (.int y :: .int x :: S) h Q = AW d 0 1345 L (.int (x + y) :: S) h Q := AW_n cdn_L_law rfl rfl
set_option maxRecDepth 20000 in
theorem st_L_law_1345 {d : Nat} {L : am_L} {S : List Value} {Q : Option Value → am_H → Prop} {c : List (Nat × Nat)} {a : Nat → Nat → Int32} {r : Nat → Nat → Option Nat} {i : Int32} {k : Nat} (ht : am_tag c k = 20) (hi : inb i (am_len c k)) : AW d 0 1345 L (.int i :: .ref k :: S) (c, a, r) Q = AW d 0 1346 L (.int (a k i.toNatClampNeg) :: S) (c, a, r) Q := AW_ald cdn_L_law rfl (by decide) ht hi
set_option maxRecDepth 20000 in
theorem st_L_law_1346 {d : Nat} {S : List Value} {h : am_H} {Q : Option Value → am_H → Prop} {l1 l2 l3 : Option Value} {x : Nat} : AW d 0 1346 [some (.ref x), l1, l2, l3] S h Q = AW d 0 1347 [some (.ref x), l1, l2, l3] (.ref x :: S) h Q := AW_n cdn_L_law rfl rfl
set_option maxRecDepth 20000 in
theorem st_L_law_1347 {d : Nat} {S : List Value} {h : am_H} {Q : Option Value → am_H → Prop} {l0 l1 l2 : Option Value} {x : Int32} : AW d 0 1347 [l0, l1, l2, some (.int x)] S h Q = AW d 0 1348 [l0, l1, l2, some (.int x)] (.int x :: S) h Q := AW_n cdn_L_law rfl rfl
set_option maxRecDepth 20000 in
theorem st_L_law_1348 {d : Nat} {L : am_L} {S : List Value} {h : am_H} {Q : Option Value → am_H → Prop} : AW d 0 1348 L S h Q = AW d 0 1349 L (.int 4 :: S) h Q := AW_n cdn_L_law rfl rfl
set_option maxRecDepth 20000 in
theorem st_L_law_1349 {d : Nat} {L : am_L} {S : List Value} {h : am_H} {Q : Option Value → am_H → Prop} {x y : Int32} : AW d 0 1349 L (.int y :: .int x :: S) h Q = AW d 0 1350 L (.int (x + y) :: S) h Q := AW_n cdn_L_law rfl rfl
set_option maxRecDepth 20000 in
theorem st_L_law_1350 {d : Nat} {L : am_L} {S : List Value} {Q : Option Value → am_H → Prop} {c : List (Nat × Nat)} {a : Nat → Nat → Int32} {r : Nat → Nat → Option Nat} {i : Int32} {k : Nat} (ht : am_tag c k = 20) (hi : inb i (am_len c k)) : AW d 0 1350 L (.int i :: .ref k :: S) (c, a, r) Q = AW d 0 1351 L (.int (a k i.toNatClampNeg) :: S) (c, a, r) Q := AW_ald cdn_L_law rfl (by decide) ht hi
set_option maxRecDepth 20000 in
theorem st_L_law_1351 {d : Nat} {S : List Value} {h : am_H} {Q : Option Value → am_H → Prop} {l1 l2 l3 : Option Value} {x : Nat} : AW d 0 1351 [some (.ref x), l1, l2, l3] S h Q = AW d 0 1352 [some (.ref x), l1, l2, l3] (.ref x :: S) h Q := AW_n cdn_L_law rfl rfl
set_option maxRecDepth 20000 in
theorem st_L_law_1352 {d : Nat} {S : List Value} {h : am_H} {Q : Option Value → am_H → Prop} {l0 l1 l2 : Option Value} {x : Int32} : AW d 0 1352 [l0, l1, l2, some (.int x)] S h Q = AW d 0 1353 [l0, l1, l2, some (.int x)] (.int x :: S) h Q := AW_n cdn_L_law rfl rfl
set_option maxRecDepth 20000 in
theorem st_L_law_1353 {d : Nat} {L : am_L} {S : List Value} {h : am_H} {Q : Option Value → am_H → Prop} : AW d 0 1353 L S h Q = AW d 0 1354 L (.int 5 :: S) h Q := AW_n cdn_L_law rfl rfl
set_option maxRecDepth 20000 in
theorem st_L_law_1354 {d : Nat} {L : am_L} {S : List Value} {h : am_H} {Q : Option Value → am_H → Prop} {x y : Int32} : AW d 0 1354 L (.int y :: .int x :: S) h Q = AW d 0 1355 L (.int (x + y) :: S) h Q := AW_n cdn_L_law rfl rfl
set_option maxRecDepth 20000 in
theorem st_L_law_1355 {d : Nat} {L : am_L} {S : List Value} {Q : Option Value → am_H → Prop} {c : List (Nat × Nat)} {a : Nat → Nat → Int32} {r : Nat → Nat → Option Nat} {i : Int32} {k : Nat} (ht : am_tag c k = 20) (hi : inb i (am_len c k)) : AW d 0 1355 L (.int i :: .ref k :: S) (c, a, r) Q = AW d 0 1356 L (.int (a k i.toNatClampNeg) :: S) (c, a, r) Q := AW_ald cdn_L_law rfl (by decide) ht hi
set_option maxRecDepth 20000 in
theorem st_L_law_1356 {d : Nat} {L : am_L} {S : List Value} {Q : Option Value → am_H → Prop} {c : List (Nat × Nat)} {a : Nat → Nat → Int32} {r : Nat → Nat → Option Nat} {k : Nat} {x1 : Int32} {x2 : Int32} {x3 : Int32} {x4 : Int32} {x5 : Int32} (ht : am_tag c k = 10) (hS : (S.map fun v => v.category).sum ≤ 8) : AW (d + 1) 0 1356 L (.int x5 :: .int x4 :: .int x3 :: .int x2 :: .int x1 :: .ref k :: S) (c, a, r) Q = CALL d 193 [.ref k, .int x1, .int x2, .int x3, .int x4, .int x5] (c, a, r) (fun v h9 => AW (d + 1) 0 1359 L (v.toList ++ S) h9 Q) := AW_invV (n := 5) (t := [.int x5, .int x4, .int x3, .int x2, .int x1]) cdn_L_law rfl (by decide) (Nat.le_of_ble_eq_true rfl) rfl rfl ht hS
set_option maxRecDepth 20000 in
theorem st_L_law_1359 {d : Nat} {L : am_L} {S : List Value} {h : am_H} {Q : Option Value → am_H → Prop} {x y : Int32} : AW d 0 1359 L (.int y :: .int x :: S) h Q = if x = y then AW d 0 1579 L S h Q else AW d 0 1362 L S h Q := AW_if cdn_L_law rfl rfl
set_option maxRecDepth 20000 in
theorem st_L_law_1362 {d : Nat} {L : am_L} {S : List Value} {h : am_H} {Q : Option Value → am_H → Prop} : AW d 0 1362 L S h Q = AW d 0 1363 L (.int 0 :: S) h Q := AW_n cdn_L_law rfl rfl
set_option maxRecDepth 20000 in
theorem st_L_law_1363 {d : Nat} {L : am_L} {h : am_H} {Q : Option Value → am_H → Prop} {x : Int32} (hx : x = 0 ∨ x = 1) : AW d 0 1363 L [.int x] h Q = Q (some (.int x)) h := AW_zret cdn_L_law rfl hx
set_option maxRecDepth 20000 in
theorem st_L_law_1364 {d : Nat} {S : List Value} {h : am_H} {Q : Option Value → am_H → Prop} {l0 l2 l3 : Option Value} {x : Nat} : AW d 0 1364 [l0, some (.ref x), l2, l3] S h Q = AW d 0 1365 [l0, some (.ref x), l2, l3] (.ref x :: S) h Q := AW_n cdn_L_law rfl rfl
set_option maxRecDepth 20000 in
theorem st_L_law_1365 {d : Nat} {S : List Value} {h : am_H} {Q : Option Value → am_H → Prop} {l1 l2 l3 : Option Value} {x : Nat} : AW d 0 1365 [some (.ref x), l1, l2, l3] S h Q = AW d 0 1366 [some (.ref x), l1, l2, l3] (.ref x :: S) h Q := AW_n cdn_L_law rfl rfl
set_option maxRecDepth 20000 in
theorem st_L_law_1366 {d : Nat} {S : List Value} {h : am_H} {Q : Option Value → am_H → Prop} {l0 l1 l2 : Option Value} {x : Int32} : AW d 0 1366 [l0, l1, l2, some (.int x)] S h Q = AW d 0 1367 [l0, l1, l2, some (.int x)] (.int x :: S) h Q := AW_n cdn_L_law rfl rfl
set_option maxRecDepth 20000 in
theorem st_L_law_1367 {d : Nat} {L : am_L} {S : List Value} {h : am_H} {Q : Option Value → am_H → Prop} : AW d 0 1367 L S h Q = AW d 0 1368 L (.int 1 :: S) h Q := AW_n cdn_L_law rfl rfl
set_option maxRecDepth 20000 in
theorem st_L_law_1368 {d : Nat} {L : am_L} {S : List Value} {h : am_H} {Q : Option Value → am_H → Prop} {x y : Int32} : AW d 0 1368 L (.int y :: .int x :: S) h Q = AW d 0 1369 L (.int (x + y) :: S) h Q := AW_n cdn_L_law rfl rfl
set_option maxRecDepth 20000 in
theorem st_L_law_1369 {d : Nat} {L : am_L} {S : List Value} {Q : Option Value → am_H → Prop} {c : List (Nat × Nat)} {a : Nat → Nat → Int32} {r : Nat → Nat → Option Nat} {i : Int32} {k : Nat} (ht : am_tag c k = 20) (hi : inb i (am_len c k)) : AW d 0 1369 L (.int i :: .ref k :: S) (c, a, r) Q = AW d 0 1370 L (.int (a k i.toNatClampNeg) :: S) (c, a, r) Q := AW_ald cdn_L_law rfl (by decide) ht hi
set_option maxRecDepth 20000 in
theorem st_L_law_1370 {d : Nat} {S : List Value} {h : am_H} {Q : Option Value → am_H → Prop} {l1 l2 l3 : Option Value} {x : Nat} : AW d 0 1370 [some (.ref x), l1, l2, l3] S h Q = AW d 0 1371 [some (.ref x), l1, l2, l3] (.ref x :: S) h Q := AW_n cdn_L_law rfl rfl
set_option maxRecDepth 20000 in
theorem st_L_law_1371 {d : Nat} {S : List Value} {h : am_H} {Q : Option Value → am_H → Prop} {l0 l1 l2 : Option Value} {x : Int32} : AW d 0 1371 [l0, l1, l2, some (.int x)] S h Q = AW d 0 1372 [l0, l1, l2, some (.int x)] (.int x :: S) h Q := AW_n cdn_L_law rfl rfl
set_option maxRecDepth 20000 in
theorem st_L_law_1372 {d : Nat} {L : am_L} {S : List Value} {h : am_H} {Q : Option Value → am_H → Prop} : AW d 0 1372 L S h Q = AW d 0 1373 L (.int 2 :: S) h Q := AW_n cdn_L_law rfl rfl
set_option maxRecDepth 20000 in
theorem st_L_law_1373 {d : Nat} {L : am_L} {S : List Value} {h : am_H} {Q : Option Value → am_H → Prop} {x y : Int32} : AW d 0 1373 L (.int y :: .int x :: S) h Q = AW d 0 1374 L (.int (x + y) :: S) h Q := AW_n cdn_L_law rfl rfl
set_option maxRecDepth 20000 in
theorem st_L_law_1374 {d : Nat} {L : am_L} {S : List Value} {Q : Option Value → am_H → Prop} {c : List (Nat × Nat)} {a : Nat → Nat → Int32} {r : Nat → Nat → Option Nat} {i : Int32} {k : Nat} (ht : am_tag c k = 20) (hi : inb i (am_len c k)) : AW d 0 1374 L (.int i :: .ref k :: S) (c, a, r) Q = AW d 0 1375 L (.int (a k i.toNatClampNeg) :: S) (c, a, r) Q := AW_ald cdn_L_law rfl (by decide) ht hi
set_option maxRecDepth 20000 in
theorem st_L_law_1375 {d : Nat} {S : List Value} {h : am_H} {Q : Option Value → am_H → Prop} {l1 l2 l3 : Option Value} {x : Nat} : AW d 0 1375 [some (.ref x), l1, l2, l3] S h Q = AW d 0 1376 [some (.ref x), l1, l2, l3] (.ref x :: S) h Q := AW_n cdn_L_law rfl rfl
set_option maxRecDepth 20000 in
theorem st_L_law_1376 {d : Nat} {S : List Value} {h : am_H} {Q : Option Value → am_H → Prop} {l0 l1 l2 : Option Value} {x : Int32} : AW d 0 1376 [l0, l1, l2, some (.int x)] S h Q = AW d 0 1377 [l0, l1, l2, some (.int x)] (.int x :: S) h Q := AW_n cdn_L_law rfl rfl
set_option maxRecDepth 20000 in
theorem st_L_law_1377 {d : Nat} {L : am_L} {S : List Value} {h : am_H} {Q : Option Value → am_H → Prop} : AW d 0 1377 L S h Q = AW d 0 1378 L (.int 3 :: S) h Q := AW_n cdn_L_law rfl rfl
set_option maxRecDepth 20000 in
theorem st_L_law_1378 {d : Nat} {L : am_L} {S : List Value} {h : am_H} {Q : Option Value → am_H → Prop} {x y : Int32} : AW d 0 1378 L (.int y :: .int x :: S) h Q = AW d 0 1379 L (.int (x + y) :: S) h Q := AW_n cdn_L_law rfl rfl
set_option maxRecDepth 20000 in
theorem st_L_law_1379 {d : Nat} {L : am_L} {S : List Value} {Q : Option Value → am_H → Prop} {c : List (Nat × Nat)} {a : Nat → Nat → Int32} {r : Nat → Nat → Option Nat} {i : Int32} {k : Nat} (ht : am_tag c k = 20) (hi : inb i (am_len c k)) : AW d 0 1379 L (.int i :: .ref k :: S) (c, a, r) Q = AW d 0 1380 L (.int (a k i.toNatClampNeg) :: S) (c, a, r) Q := AW_ald cdn_L_law rfl (by decide) ht hi
set_option maxRecDepth 20000 in
theorem st_L_law_1380 {d : Nat} {L : am_L} {S : List Value} {Q : Option Value → am_H → Prop} {c : List (Nat × Nat)} {a : Nat → Nat → Int32} {r : Nat → Nat → Option Nat} {k : Nat} {x1 : Int32} {x2 : Int32} {x3 : Int32} (ht : am_tag c k = 9) (hS : (S.map fun v => v.category).sum ≤ 8) : AW (d + 1) 0 1380 L (.int x3 :: .int x2 :: .int x1 :: .ref k :: S) (c, a, r) Q = CALL d 104 [.ref k, .int x1, .int x2, .int x3] (c, a, r) (fun v h9 => AW (d + 1) 0 1383 L (v.toList ++ S) h9 Q) := AW_invV (n := 3) (t := [.int x3, .int x2, .int x1]) cdn_L_law rfl (by decide) (Nat.le_of_ble_eq_true rfl) rfl rfl ht hS
set_option maxRecDepth 20000 in
theorem st_L_law_1383 {d : Nat} {S : List Value} {h : am_H} {Q : Option Value → am_H → Prop} {l0 l1 l3 : Option Value} {x : Nat} : AW d 0 1383 [l0, l1, some (.ref x), l3] S h Q = AW d 0 1384 [l0, l1, some (.ref x), l3] (.ref x :: S) h Q := AW_n cdn_L_law rfl rfl
set_option maxRecDepth 20000 in
theorem st_L_law_1384 {d : Nat} {S : List Value} {h : am_H} {Q : Option Value → am_H → Prop} {l1 l2 l3 : Option Value} {x : Nat} : AW d 0 1384 [some (.ref x), l1, l2, l3] S h Q = AW d 0 1385 [some (.ref x), l1, l2, l3] (.ref x :: S) h Q := AW_n cdn_L_law rfl rfl
set_option maxRecDepth 20000 in
theorem st_L_law_1385 {d : Nat} {S : List Value} {h : am_H} {Q : Option Value → am_H → Prop} {l0 l1 l2 : Option Value} {x : Int32} : AW d 0 1385 [l0, l1, l2, some (.int x)] S h Q = AW d 0 1386 [l0, l1, l2, some (.int x)] (.int x :: S) h Q := AW_n cdn_L_law rfl rfl
set_option maxRecDepth 20000 in
theorem st_L_law_1386 {d : Nat} {L : am_L} {S : List Value} {h : am_H} {Q : Option Value → am_H → Prop} : AW d 0 1386 L S h Q = AW d 0 1387 L (.int 1 :: S) h Q := AW_n cdn_L_law rfl rfl
set_option maxRecDepth 20000 in
theorem st_L_law_1387 {d : Nat} {L : am_L} {S : List Value} {h : am_H} {Q : Option Value → am_H → Prop} {x y : Int32} : AW d 0 1387 L (.int y :: .int x :: S) h Q = AW d 0 1388 L (.int (x + y) :: S) h Q := AW_n cdn_L_law rfl rfl
set_option maxRecDepth 20000 in
theorem st_L_law_1388 {d : Nat} {L : am_L} {S : List Value} {Q : Option Value → am_H → Prop} {c : List (Nat × Nat)} {a : Nat → Nat → Int32} {r : Nat → Nat → Option Nat} {i : Int32} {k : Nat} (ht : am_tag c k = 20) (hi : inb i (am_len c k)) : AW d 0 1388 L (.int i :: .ref k :: S) (c, a, r) Q = AW d 0 1389 L (.int (a k i.toNatClampNeg) :: S) (c, a, r) Q := AW_ald cdn_L_law rfl (by decide) ht hi
set_option maxRecDepth 20000 in
theorem st_L_law_1389 {d : Nat} {S : List Value} {h : am_H} {Q : Option Value → am_H → Prop} {l1 l2 l3 : Option Value} {x : Nat} : AW d 0 1389 [some (.ref x), l1, l2, l3] S h Q = AW d 0 1390 [some (.ref x), l1, l2, l3] (.ref x :: S) h Q := AW_n cdn_L_law rfl rfl
set_option maxRecDepth 20000 in
theorem st_L_law_1390 {d : Nat} {S : List Value} {h : am_H} {Q : Option Value → am_H → Prop} {l0 l1 l2 : Option Value} {x : Int32} : AW d 0 1390 [l0, l1, l2, some (.int x)] S h Q = AW d 0 1391 [l0, l1, l2, some (.int x)] (.int x :: S) h Q := AW_n cdn_L_law rfl rfl
set_option maxRecDepth 20000 in
theorem st_L_law_1391 {d : Nat} {L : am_L} {S : List Value} {h : am_H} {Q : Option Value → am_H → Prop} : AW d 0 1391 L S h Q = AW d 0 1392 L (.int 2 :: S) h Q := AW_n cdn_L_law rfl rfl
set_option maxRecDepth 20000 in
theorem st_L_law_1392 {d : Nat} {L : am_L} {S : List Value} {h : am_H} {Q : Option Value → am_H → Prop} {x y : Int32} : AW d 0 1392 L (.int y :: .int x :: S) h Q = AW d 0 1393 L (.int (x + y) :: S) h Q := AW_n cdn_L_law rfl rfl
set_option maxRecDepth 20000 in
theorem st_L_law_1393 {d : Nat} {L : am_L} {S : List Value} {Q : Option Value → am_H → Prop} {c : List (Nat × Nat)} {a : Nat → Nat → Int32} {r : Nat → Nat → Option Nat} {i : Int32} {k : Nat} (ht : am_tag c k = 20) (hi : inb i (am_len c k)) : AW d 0 1393 L (.int i :: .ref k :: S) (c, a, r) Q = AW d 0 1394 L (.int (a k i.toNatClampNeg) :: S) (c, a, r) Q := AW_ald cdn_L_law rfl (by decide) ht hi
set_option maxRecDepth 20000 in
theorem st_L_law_1394 {d : Nat} {S : List Value} {h : am_H} {Q : Option Value → am_H → Prop} {l1 l2 l3 : Option Value} {x : Nat} : AW d 0 1394 [some (.ref x), l1, l2, l3] S h Q = AW d 0 1395 [some (.ref x), l1, l2, l3] (.ref x :: S) h Q := AW_n cdn_L_law rfl rfl
set_option maxRecDepth 20000 in
theorem st_L_law_1395 {d : Nat} {S : List Value} {h : am_H} {Q : Option Value → am_H → Prop} {l0 l1 l2 : Option Value} {x : Int32} : AW d 0 1395 [l0, l1, l2, some (.int x)] S h Q = AW d 0 1396 [l0, l1, l2, some (.int x)] (.int x :: S) h Q := AW_n cdn_L_law rfl rfl
set_option maxRecDepth 20000 in
theorem st_L_law_1396 {d : Nat} {L : am_L} {S : List Value} {h : am_H} {Q : Option Value → am_H → Prop} : AW d 0 1396 L S h Q = AW d 0 1397 L (.int 3 :: S) h Q := AW_n cdn_L_law rfl rfl
set_option maxRecDepth 20000 in
theorem st_L_law_1397 {d : Nat} {L : am_L} {S : List Value} {h : am_H} {Q : Option Value → am_H → Prop} {x y : Int32} : AW d 0 1397 L (.int y :: .int x :: S) h Q = AW d 0 1398 L (.int (x + y) :: S) h Q := AW_n cdn_L_law rfl rfl
set_option maxRecDepth 20000 in
theorem st_L_law_1398 {d : Nat} {L : am_L} {S : List Value} {Q : Option Value → am_H → Prop} {c : List (Nat × Nat)} {a : Nat → Nat → Int32} {r : Nat → Nat → Option Nat} {i : Int32} {k : Nat} (ht : am_tag c k = 20) (hi : inb i (am_len c k)) : AW d 0 1398 L (.int i :: .ref k :: S) (c, a, r) Q = AW d 0 1399 L (.int (a k i.toNatClampNeg) :: S) (c, a, r) Q := AW_ald cdn_L_law rfl (by decide) ht hi
set_option maxRecDepth 20000 in
theorem st_L_law_1399 {d : Nat} {L : am_L} {S : List Value} {Q : Option Value → am_H → Prop} {c : List (Nat × Nat)} {a : Nat → Nat → Int32} {r : Nat → Nat → Option Nat} {k : Nat} {x1 : Int32} {x2 : Int32} {x3 : Int32} (ht : am_tag c k = 10) (hS : (S.map fun v => v.category).sum ≤ 8) : AW (d + 1) 0 1399 L (.int x3 :: .int x2 :: .int x1 :: .ref k :: S) (c, a, r) Q = CALL d 197 [.ref k, .int x1, .int x2, .int x3] (c, a, r) (fun v h9 => AW (d + 1) 0 1402 L (v.toList ++ S) h9 Q) := AW_invV (n := 3) (t := [.int x3, .int x2, .int x1]) cdn_L_law rfl (by decide) (Nat.le_of_ble_eq_true rfl) rfl rfl ht hS
set_option maxRecDepth 20000 in
theorem st_L_law_1402 {d : Nat} {L : am_L} {S : List Value} {h : am_H} {Q : Option Value → am_H → Prop} {x y : Int32} : AW d 0 1402 L (.int y :: .int x :: S) h Q = if x = y then AW d 0 1579 L S h Q else AW d 0 1405 L S h Q := AW_if cdn_L_law rfl rfl
set_option maxRecDepth 20000 in
theorem st_L_law_1405 {d : Nat} {L : am_L} {S : List Value} {h : am_H} {Q : Option Value → am_H → Prop} : AW d 0 1405 L S h Q = AW d 0 1406 L (.int 0 :: S) h Q := AW_n cdn_L_law rfl rfl
set_option maxRecDepth 20000 in
theorem st_L_law_1406 {d : Nat} {L : am_L} {h : am_H} {Q : Option Value → am_H → Prop} {x : Int32} (hx : x = 0 ∨ x = 1) : AW d 0 1406 L [.int x] h Q = Q (some (.int x)) h := AW_zret cdn_L_law rfl hx
set_option maxRecDepth 20000 in
theorem st_L_law_1407 {d : Nat} {S : List Value} {h : am_H} {Q : Option Value → am_H → Prop} {l0 l2 l3 : Option Value} {x : Nat} : AW d 0 1407 [l0, some (.ref x), l2, l3] S h Q = AW d 0 1408 [l0, some (.ref x), l2, l3] (.ref x :: S) h Q := AW_n cdn_L_law rfl rfl
set_option maxRecDepth 20000 in
theorem st_L_law_1408 {d : Nat} {S : List Value} {h : am_H} {Q : Option Value → am_H → Prop} {l1 l2 l3 : Option Value} {x : Nat} : AW d 0 1408 [some (.ref x), l1, l2, l3] S h Q = AW d 0 1409 [some (.ref x), l1, l2, l3] (.ref x :: S) h Q := AW_n cdn_L_law rfl rfl
set_option maxRecDepth 20000 in
theorem st_L_law_1409 {d : Nat} {S : List Value} {h : am_H} {Q : Option Value → am_H → Prop} {l0 l1 l2 : Option Value} {x : Int32} : AW d 0 1409 [l0, l1, l2, some (.int x)] S h Q = AW d 0 1410 [l0, l1, l2, some (.int x)] (.int x :: S) h Q := AW_n cdn_L_law rfl rfl
set_option maxRecDepth 20000 in
theorem st_L_law_1410 {d : Nat} {L : am_L} {S : List Value} {h : am_H} {Q : Option Value → am_H → Prop} : AW d 0 1410 L S h Q = AW d 0 1411 L (.int 1 :: S) h Q := AW_n cdn_L_law rfl rfl
set_option maxRecDepth 20000 in
theorem st_L_law_1411 {d : Nat} {L : am_L} {S : List Value} {h : am_H} {Q : Option Value → am_H → Prop} {x y : Int32} : AW d 0 1411 L (.int y :: .int x :: S) h Q = AW d 0 1412 L (.int (x + y) :: S) h Q := AW_n cdn_L_law rfl rfl
set_option maxRecDepth 20000 in
theorem st_L_law_1412 {d : Nat} {L : am_L} {S : List Value} {Q : Option Value → am_H → Prop} {c : List (Nat × Nat)} {a : Nat → Nat → Int32} {r : Nat → Nat → Option Nat} {i : Int32} {k : Nat} (ht : am_tag c k = 20) (hi : inb i (am_len c k)) : AW d 0 1412 L (.int i :: .ref k :: S) (c, a, r) Q = AW d 0 1413 L (.int (a k i.toNatClampNeg) :: S) (c, a, r) Q := AW_ald cdn_L_law rfl (by decide) ht hi
set_option maxRecDepth 20000 in
theorem st_L_law_1413 {d : Nat} {L : am_L} {S : List Value} {Q : Option Value → am_H → Prop} {c : List (Nat × Nat)} {a : Nat → Nat → Int32} {r : Nat → Nat → Option Nat} {k : Nat} {x1 : Int32} (ht : am_tag c k = 9) (hS : (S.map fun v => v.category).sum ≤ 8) : AW (d + 1) 0 1413 L (.int x1 :: .ref k :: S) (c, a, r) Q = CALL d 105 [.ref k, .int x1] (c, a, r) (fun v h9 => AW (d + 1) 0 1416 L (v.toList ++ S) h9 Q) := AW_invV (n := 1) (t := [.int x1]) cdn_L_law rfl (by decide) (Nat.le_of_ble_eq_true rfl) rfl rfl ht hS
set_option maxRecDepth 20000 in
theorem st_L_law_1416 {d : Nat} {S : List Value} {h : am_H} {Q : Option Value → am_H → Prop} {l0 l1 l3 : Option Value} {x : Nat} : AW d 0 1416 [l0, l1, some (.ref x), l3] S h Q = AW d 0 1417 [l0, l1, some (.ref x), l3] (.ref x :: S) h Q := AW_n cdn_L_law rfl rfl
set_option maxRecDepth 20000 in
theorem st_L_law_1417 {d : Nat} {S : List Value} {h : am_H} {Q : Option Value → am_H → Prop} {l1 l2 l3 : Option Value} {x : Nat} : AW d 0 1417 [some (.ref x), l1, l2, l3] S h Q = AW d 0 1418 [some (.ref x), l1, l2, l3] (.ref x :: S) h Q := AW_n cdn_L_law rfl rfl
set_option maxRecDepth 20000 in
theorem st_L_law_1418 {d : Nat} {S : List Value} {h : am_H} {Q : Option Value → am_H → Prop} {l0 l1 l2 : Option Value} {x : Int32} : AW d 0 1418 [l0, l1, l2, some (.int x)] S h Q = AW d 0 1419 [l0, l1, l2, some (.int x)] (.int x :: S) h Q := AW_n cdn_L_law rfl rfl
set_option maxRecDepth 20000 in
theorem st_L_law_1419 {d : Nat} {L : am_L} {S : List Value} {h : am_H} {Q : Option Value → am_H → Prop} : AW d 0 1419 L S h Q = AW d 0 1420 L (.int 1 :: S) h Q := AW_n cdn_L_law rfl rfl
set_option maxRecDepth 20000 in
theorem st_L_law_1420 {d : Nat} {L : am_L} {S : List Value} {h : am_H} {Q : Option Value → am_H → Prop} {x y : Int32} : AW d 0 1420 L (.int y :: .int x :: S) h Q = AW d 0 1421 L (.int (x + y) :: S) h Q := AW_n cdn_L_law rfl rfl
set_option maxRecDepth 20000 in
theorem st_L_law_1421 {d : Nat} {L : am_L} {S : List Value} {Q : Option Value → am_H → Prop} {c : List (Nat × Nat)} {a : Nat → Nat → Int32} {r : Nat → Nat → Option Nat} {i : Int32} {k : Nat} (ht : am_tag c k = 20) (hi : inb i (am_len c k)) : AW d 0 1421 L (.int i :: .ref k :: S) (c, a, r) Q = AW d 0 1422 L (.int (a k i.toNatClampNeg) :: S) (c, a, r) Q := AW_ald cdn_L_law rfl (by decide) ht hi
set_option maxRecDepth 20000 in
theorem st_L_law_1422 {d : Nat} {L : am_L} {S : List Value} {Q : Option Value → am_H → Prop} {c : List (Nat × Nat)} {a : Nat → Nat → Int32} {r : Nat → Nat → Option Nat} {k : Nat} {x1 : Int32} (ht : am_tag c k = 10) (hS : (S.map fun v => v.category).sum ≤ 8) : AW (d + 1) 0 1422 L (.int x1 :: .ref k :: S) (c, a, r) Q = CALL d 198 [.ref k, .int x1] (c, a, r) (fun v h9 => AW (d + 1) 0 1425 L (v.toList ++ S) h9 Q) := AW_invV (n := 1) (t := [.int x1]) cdn_L_law rfl (by decide) (Nat.le_of_ble_eq_true rfl) rfl rfl ht hS
set_option maxRecDepth 20000 in
theorem st_L_law_1425 {d : Nat} {L : am_L} {S : List Value} {h : am_H} {Q : Option Value → am_H → Prop} {x y : Int32} : AW d 0 1425 L (.int y :: .int x :: S) h Q = if x = y then AW d 0 1579 L S h Q else AW d 0 1428 L S h Q := AW_if cdn_L_law rfl rfl
set_option maxRecDepth 20000 in
theorem st_L_law_1428 {d : Nat} {L : am_L} {S : List Value} {h : am_H} {Q : Option Value → am_H → Prop} : AW d 0 1428 L S h Q = AW d 0 1429 L (.int 0 :: S) h Q := AW_n cdn_L_law rfl rfl
set_option maxRecDepth 20000 in
theorem st_L_law_1429 {d : Nat} {L : am_L} {h : am_H} {Q : Option Value → am_H → Prop} {x : Int32} (hx : x = 0 ∨ x = 1) : AW d 0 1429 L [.int x] h Q = Q (some (.int x)) h := AW_zret cdn_L_law rfl hx
set_option maxRecDepth 20000 in
theorem st_L_law_1430 {d : Nat} {S : List Value} {h : am_H} {Q : Option Value → am_H → Prop} {l0 l2 l3 : Option Value} {x : Nat} : AW d 0 1430 [l0, some (.ref x), l2, l3] S h Q = AW d 0 1431 [l0, some (.ref x), l2, l3] (.ref x :: S) h Q := AW_n cdn_L_law rfl rfl
set_option maxRecDepth 20000 in
theorem st_L_law_1431 {d : Nat} {S : List Value} {h : am_H} {Q : Option Value → am_H → Prop} {l1 l2 l3 : Option Value} {x : Nat} : AW d 0 1431 [some (.ref x), l1, l2, l3] S h Q = AW d 0 1432 [some (.ref x), l1, l2, l3] (.ref x :: S) h Q := AW_n cdn_L_law rfl rfl
set_option maxRecDepth 20000 in
theorem st_L_law_1432 {d : Nat} {S : List Value} {h : am_H} {Q : Option Value → am_H → Prop} {l0 l1 l2 : Option Value} {x : Int32} : AW d 0 1432 [l0, l1, l2, some (.int x)] S h Q = AW d 0 1433 [l0, l1, l2, some (.int x)] (.int x :: S) h Q := AW_n cdn_L_law rfl rfl
set_option maxRecDepth 20000 in
theorem st_L_law_1433 {d : Nat} {L : am_L} {S : List Value} {h : am_H} {Q : Option Value → am_H → Prop} : AW d 0 1433 L S h Q = AW d 0 1434 L (.int 1 :: S) h Q := AW_n cdn_L_law rfl rfl
set_option maxRecDepth 20000 in
theorem st_L_law_1434 {d : Nat} {L : am_L} {S : List Value} {h : am_H} {Q : Option Value → am_H → Prop} {x y : Int32} : AW d 0 1434 L (.int y :: .int x :: S) h Q = AW d 0 1435 L (.int (x + y) :: S) h Q := AW_n cdn_L_law rfl rfl
set_option maxRecDepth 20000 in
theorem st_L_law_1435 {d : Nat} {L : am_L} {S : List Value} {Q : Option Value → am_H → Prop} {c : List (Nat × Nat)} {a : Nat → Nat → Int32} {r : Nat → Nat → Option Nat} {i : Int32} {k : Nat} (ht : am_tag c k = 20) (hi : inb i (am_len c k)) : AW d 0 1435 L (.int i :: .ref k :: S) (c, a, r) Q = AW d 0 1436 L (.int (a k i.toNatClampNeg) :: S) (c, a, r) Q := AW_ald cdn_L_law rfl (by decide) ht hi
set_option maxRecDepth 20000 in
theorem st_L_law_1436 {d : Nat} {S : List Value} {h : am_H} {Q : Option Value → am_H → Prop} {l1 l2 l3 : Option Value} {x : Nat} : AW d 0 1436 [some (.ref x), l1, l2, l3] S h Q = AW d 0 1437 [some (.ref x), l1, l2, l3] (.ref x :: S) h Q := AW_n cdn_L_law rfl rfl
set_option maxRecDepth 20000 in
theorem st_L_law_1437 {d : Nat} {S : List Value} {h : am_H} {Q : Option Value → am_H → Prop} {l0 l1 l2 : Option Value} {x : Int32} : AW d 0 1437 [l0, l1, l2, some (.int x)] S h Q = AW d 0 1438 [l0, l1, l2, some (.int x)] (.int x :: S) h Q := AW_n cdn_L_law rfl rfl
set_option maxRecDepth 20000 in
theorem st_L_law_1438 {d : Nat} {L : am_L} {S : List Value} {h : am_H} {Q : Option Value → am_H → Prop} : AW d 0 1438 L S h Q = AW d 0 1439 L (.int 2 :: S) h Q := AW_n cdn_L_law rfl rfl
set_option maxRecDepth 20000 in
theorem st_L_law_1439 {d : Nat} {L : am_L} {S : List Value} {h : am_H} {Q : Option Value → am_H → Prop} {x y : Int32} : AW d 0 1439 L (.int y :: .int x :: S) h Q = AW d 0 1440 L (.int (x + y) :: S) h Q := AW_n cdn_L_law rfl rfl
set_option maxRecDepth 20000 in
theorem st_L_law_1440 {d : Nat} {L : am_L} {S : List Value} {Q : Option Value → am_H → Prop} {c : List (Nat × Nat)} {a : Nat → Nat → Int32} {r : Nat → Nat → Option Nat} {i : Int32} {k : Nat} (ht : am_tag c k = 20) (hi : inb i (am_len c k)) : AW d 0 1440 L (.int i :: .ref k :: S) (c, a, r) Q = AW d 0 1441 L (.int (a k i.toNatClampNeg) :: S) (c, a, r) Q := AW_ald cdn_L_law rfl (by decide) ht hi
set_option maxRecDepth 20000 in
theorem st_L_law_1441 {d : Nat} {S : List Value} {h : am_H} {Q : Option Value → am_H → Prop} {l1 l2 l3 : Option Value} {x : Nat} : AW d 0 1441 [some (.ref x), l1, l2, l3] S h Q = AW d 0 1442 [some (.ref x), l1, l2, l3] (.ref x :: S) h Q := AW_n cdn_L_law rfl rfl
set_option maxRecDepth 20000 in
theorem st_L_law_1442 {d : Nat} {S : List Value} {h : am_H} {Q : Option Value → am_H → Prop} {l0 l1 l2 : Option Value} {x : Int32} : AW d 0 1442 [l0, l1, l2, some (.int x)] S h Q = AW d 0 1443 [l0, l1, l2, some (.int x)] (.int x :: S) h Q := AW_n cdn_L_law rfl rfl
set_option maxRecDepth 20000 in
theorem st_L_law_1443 {d : Nat} {L : am_L} {S : List Value} {h : am_H} {Q : Option Value → am_H → Prop} : AW d 0 1443 L S h Q = AW d 0 1444 L (.int 3 :: S) h Q := AW_n cdn_L_law rfl rfl
set_option maxRecDepth 20000 in
theorem st_L_law_1444 {d : Nat} {L : am_L} {S : List Value} {h : am_H} {Q : Option Value → am_H → Prop} {x y : Int32} : AW d 0 1444 L (.int y :: .int x :: S) h Q = AW d 0 1445 L (.int (x + y) :: S) h Q := AW_n cdn_L_law rfl rfl
set_option maxRecDepth 20000 in
theorem st_L_law_1445 {d : Nat} {L : am_L} {S : List Value} {Q : Option Value → am_H → Prop} {c : List (Nat × Nat)} {a : Nat → Nat → Int32} {r : Nat → Nat → Option Nat} {i : Int32} {k : Nat} (ht : am_tag c k = 20) (hi : inb i (am_len c k)) : AW d 0 1445 L (.int i :: .ref k :: S) (c, a, r) Q = AW d 0 1446 L (.int (a k i.toNatClampNeg) :: S) (c, a, r) Q := AW_ald cdn_L_law rfl (by decide) ht hi
set_option maxRecDepth 20000 in
theorem st_L_law_1446 {d : Nat} {S : List Value} {h : am_H} {Q : Option Value → am_H → Prop} {l1 l2 l3 : Option Value} {x : Nat} : AW d 0 1446 [some (.ref x), l1, l2, l3] S h Q = AW d 0 1447 [some (.ref x), l1, l2, l3] (.ref x :: S) h Q := AW_n cdn_L_law rfl rfl
set_option maxRecDepth 20000 in
theorem st_L_law_1447 {d : Nat} {S : List Value} {h : am_H} {Q : Option Value → am_H → Prop} {l0 l1 l2 : Option Value} {x : Int32} : AW d 0 1447 [l0, l1, l2, some (.int x)] S h Q = AW d 0 1448 [l0, l1, l2, some (.int x)] (.int x :: S) h Q := AW_n cdn_L_law rfl rfl
set_option maxRecDepth 20000 in
theorem st_L_law_1448 {d : Nat} {L : am_L} {S : List Value} {h : am_H} {Q : Option Value → am_H → Prop} : AW d 0 1448 L S h Q = AW d 0 1449 L (.int 4 :: S) h Q := AW_n cdn_L_law rfl rfl
set_option maxRecDepth 20000 in
theorem st_L_law_1449 {d : Nat} {L : am_L} {S : List Value} {h : am_H} {Q : Option Value → am_H → Prop} {x y : Int32} : AW d 0 1449 L (.int y :: .int x :: S) h Q = AW d 0 1450 L (.int (x + y) :: S) h Q := AW_n cdn_L_law rfl rfl
set_option maxRecDepth 20000 in
theorem st_L_law_1450 {d : Nat} {L : am_L} {S : List Value} {Q : Option Value → am_H → Prop} {c : List (Nat × Nat)} {a : Nat → Nat → Int32} {r : Nat → Nat → Option Nat} {i : Int32} {k : Nat} (ht : am_tag c k = 20) (hi : inb i (am_len c k)) : AW d 0 1450 L (.int i :: .ref k :: S) (c, a, r) Q = AW d 0 1451 L (.int (a k i.toNatClampNeg) :: S) (c, a, r) Q := AW_ald cdn_L_law rfl (by decide) ht hi
set_option maxRecDepth 20000 in
theorem st_L_law_1451 {d : Nat} {L : am_L} {S : List Value} {Q : Option Value → am_H → Prop} {c : List (Nat × Nat)} {a : Nat → Nat → Int32} {r : Nat → Nat → Option Nat} {k : Nat} {x1 : Int32} {x2 : Int32} {x3 : Int32} {x4 : Int32} (ht : am_tag c k = 9) (hS : (S.map fun v => v.category).sum ≤ 8) : AW (d + 1) 0 1451 L (.int x4 :: .int x3 :: .int x2 :: .int x1 :: .ref k :: S) (c, a, r) Q = CALL d 106 [.ref k, .int x1, .int x2, .int x3, .int x4] (c, a, r) (fun v h9 => AW (d + 1) 0 1454 L (v.toList ++ S) h9 Q) := AW_invV (n := 4) (t := [.int x4, .int x3, .int x2, .int x1]) cdn_L_law rfl (by decide) (Nat.le_of_ble_eq_true rfl) rfl rfl ht hS
set_option maxRecDepth 20000 in
theorem st_L_law_1454 {d : Nat} {S : List Value} {h : am_H} {Q : Option Value → am_H → Prop} {l0 l1 l3 : Option Value} {x : Nat} : AW d 0 1454 [l0, l1, some (.ref x), l3] S h Q = AW d 0 1455 [l0, l1, some (.ref x), l3] (.ref x :: S) h Q := AW_n cdn_L_law rfl rfl
set_option maxRecDepth 20000 in
theorem st_L_law_1455 {d : Nat} {S : List Value} {h : am_H} {Q : Option Value → am_H → Prop} {l1 l2 l3 : Option Value} {x : Nat} : AW d 0 1455 [some (.ref x), l1, l2, l3] S h Q = AW d 0 1456 [some (.ref x), l1, l2, l3] (.ref x :: S) h Q := AW_n cdn_L_law rfl rfl
set_option maxRecDepth 20000 in
theorem st_L_law_1456 {d : Nat} {S : List Value} {h : am_H} {Q : Option Value → am_H → Prop} {l0 l1 l2 : Option Value} {x : Int32} : AW d 0 1456 [l0, l1, l2, some (.int x)] S h Q = AW d 0 1457 [l0, l1, l2, some (.int x)] (.int x :: S) h Q := AW_n cdn_L_law rfl rfl
set_option maxRecDepth 20000 in
theorem st_L_law_1457 {d : Nat} {L : am_L} {S : List Value} {h : am_H} {Q : Option Value → am_H → Prop} : AW d 0 1457 L S h Q = AW d 0 1458 L (.int 1 :: S) h Q := AW_n cdn_L_law rfl rfl
set_option maxRecDepth 20000 in
theorem st_L_law_1458 {d : Nat} {L : am_L} {S : List Value} {h : am_H} {Q : Option Value → am_H → Prop} {x y : Int32} : AW d 0 1458 L (.int y :: .int x :: S) h Q = AW d 0 1459 L (.int (x + y) :: S) h Q := AW_n cdn_L_law rfl rfl
set_option maxRecDepth 20000 in
theorem st_L_law_1459 {d : Nat} {L : am_L} {S : List Value} {Q : Option Value → am_H → Prop} {c : List (Nat × Nat)} {a : Nat → Nat → Int32} {r : Nat → Nat → Option Nat} {i : Int32} {k : Nat} (ht : am_tag c k = 20) (hi : inb i (am_len c k)) : AW d 0 1459 L (.int i :: .ref k :: S) (c, a, r) Q = AW d 0 1460 L (.int (a k i.toNatClampNeg) :: S) (c, a, r) Q := AW_ald cdn_L_law rfl (by decide) ht hi
set_option maxRecDepth 20000 in
theorem st_L_law_1460 {d : Nat} {S : List Value} {h : am_H} {Q : Option Value → am_H → Prop} {l1 l2 l3 : Option Value} {x : Nat} : AW d 0 1460 [some (.ref x), l1, l2, l3] S h Q = AW d 0 1461 [some (.ref x), l1, l2, l3] (.ref x :: S) h Q := AW_n cdn_L_law rfl rfl
set_option maxRecDepth 20000 in
theorem st_L_law_1461 {d : Nat} {S : List Value} {h : am_H} {Q : Option Value → am_H → Prop} {l0 l1 l2 : Option Value} {x : Int32} : AW d 0 1461 [l0, l1, l2, some (.int x)] S h Q = AW d 0 1462 [l0, l1, l2, some (.int x)] (.int x :: S) h Q := AW_n cdn_L_law rfl rfl
set_option maxRecDepth 20000 in
theorem st_L_law_1462 {d : Nat} {L : am_L} {S : List Value} {h : am_H} {Q : Option Value → am_H → Prop} : AW d 0 1462 L S h Q = AW d 0 1463 L (.int 2 :: S) h Q := AW_n cdn_L_law rfl rfl
set_option maxRecDepth 20000 in
theorem st_L_law_1463 {d : Nat} {L : am_L} {S : List Value} {h : am_H} {Q : Option Value → am_H → Prop} {x y : Int32} : AW d 0 1463 L (.int y :: .int x :: S) h Q = AW d 0 1464 L (.int (x + y) :: S) h Q := AW_n cdn_L_law rfl rfl
set_option maxRecDepth 20000 in
theorem st_L_law_1464 {d : Nat} {L : am_L} {S : List Value} {Q : Option Value → am_H → Prop} {c : List (Nat × Nat)} {a : Nat → Nat → Int32} {r : Nat → Nat → Option Nat} {i : Int32} {k : Nat} (ht : am_tag c k = 20) (hi : inb i (am_len c k)) : AW d 0 1464 L (.int i :: .ref k :: S) (c, a, r) Q = AW d 0 1465 L (.int (a k i.toNatClampNeg) :: S) (c, a, r) Q := AW_ald cdn_L_law rfl (by decide) ht hi
set_option maxRecDepth 20000 in
theorem st_L_law_1465 {d : Nat} {S : List Value} {h : am_H} {Q : Option Value → am_H → Prop} {l1 l2 l3 : Option Value} {x : Nat} : AW d 0 1465 [some (.ref x), l1, l2, l3] S h Q = AW d 0 1466 [some (.ref x), l1, l2, l3] (.ref x :: S) h Q := AW_n cdn_L_law rfl rfl
set_option maxRecDepth 20000 in
theorem st_L_law_1466 {d : Nat} {S : List Value} {h : am_H} {Q : Option Value → am_H → Prop} {l0 l1 l2 : Option Value} {x : Int32} : AW d 0 1466 [l0, l1, l2, some (.int x)] S h Q = AW d 0 1467 [l0, l1, l2, some (.int x)] (.int x :: S) h Q := AW_n cdn_L_law rfl rfl
set_option maxRecDepth 20000 in
theorem st_L_law_1467 {d : Nat} {L : am_L} {S : List Value} {h : am_H} {Q : Option Value → am_H → Prop} : AW d 0 1467 L S h Q = AW d 0 1468 L (.int 3 :: S) h Q := AW_n cdn_L_law rfl rfl
set_option maxRecDepth 20000 in
theorem st_L_law_1468 {d : Nat} {L : am_L} {S : List Value} {h : am_H} {Q : Option Value → am_H → Prop} {x y : Int32} : AW d 0 1468 L (.int y :: .int x :: S) h Q = AW d 0 1469 L (.int (x + y) :: S) h Q := AW_n cdn_L_law rfl rfl
set_option maxRecDepth 20000 in
theorem st_L_law_1469 {d : Nat} {L : am_L} {S : List Value} {Q : Option Value → am_H → Prop} {c : List (Nat × Nat)} {a : Nat → Nat → Int32} {r : Nat → Nat → Option Nat} {i : Int32} {k : Nat} (ht : am_tag c k = 20) (hi : inb i (am_len c k)) : AW d 0 1469 L (.int i :: .ref k :: S) (c, a, r) Q = AW d 0 1470 L (.int (a k i.toNatClampNeg) :: S) (c, a, r) Q := AW_ald cdn_L_law rfl (by decide) ht hi
set_option maxRecDepth 20000 in
theorem st_L_law_1470 {d : Nat} {S : List Value} {h : am_H} {Q : Option Value → am_H → Prop} {l1 l2 l3 : Option Value} {x : Nat} : AW d 0 1470 [some (.ref x), l1, l2, l3] S h Q = AW d 0 1471 [some (.ref x), l1, l2, l3] (.ref x :: S) h Q := AW_n cdn_L_law rfl rfl
set_option maxRecDepth 20000 in
theorem st_L_law_1471 {d : Nat} {S : List Value} {h : am_H} {Q : Option Value → am_H → Prop} {l0 l1 l2 : Option Value} {x : Int32} : AW d 0 1471 [l0, l1, l2, some (.int x)] S h Q = AW d 0 1472 [l0, l1, l2, some (.int x)] (.int x :: S) h Q := AW_n cdn_L_law rfl rfl
set_option maxRecDepth 20000 in
theorem st_L_law_1472 {d : Nat} {L : am_L} {S : List Value} {h : am_H} {Q : Option Value → am_H → Prop} : AW d 0 1472 L S h Q = AW d 0 1473 L (.int 4 :: S) h Q := AW_n cdn_L_law rfl rfl
set_option maxRecDepth 20000 in
theorem st_L_law_1473 {d : Nat} {L : am_L} {S : List Value} {h : am_H} {Q : Option Value → am_H → Prop} {x y : Int32} : AW d 0 1473 L (.int y :: .int x :: S) h Q = AW d 0 1474 L (.int (x + y) :: S) h Q := AW_n cdn_L_law rfl rfl
set_option maxRecDepth 20000 in
theorem st_L_law_1474 {d : Nat} {L : am_L} {S : List Value} {Q : Option Value → am_H → Prop} {c : List (Nat × Nat)} {a : Nat → Nat → Int32} {r : Nat → Nat → Option Nat} {i : Int32} {k : Nat} (ht : am_tag c k = 20) (hi : inb i (am_len c k)) : AW d 0 1474 L (.int i :: .ref k :: S) (c, a, r) Q = AW d 0 1475 L (.int (a k i.toNatClampNeg) :: S) (c, a, r) Q := AW_ald cdn_L_law rfl (by decide) ht hi
set_option maxRecDepth 20000 in
theorem st_L_law_1475 {d : Nat} {L : am_L} {S : List Value} {Q : Option Value → am_H → Prop} {c : List (Nat × Nat)} {a : Nat → Nat → Int32} {r : Nat → Nat → Option Nat} {k : Nat} {x1 : Int32} {x2 : Int32} {x3 : Int32} {x4 : Int32} (ht : am_tag c k = 10) (hS : (S.map fun v => v.category).sum ≤ 8) : AW (d + 1) 0 1475 L (.int x4 :: .int x3 :: .int x2 :: .int x1 :: .ref k :: S) (c, a, r) Q = CALL d 199 [.ref k, .int x1, .int x2, .int x3, .int x4] (c, a, r) (fun v h9 => AW (d + 1) 0 1478 L (v.toList ++ S) h9 Q) := AW_invV (n := 4) (t := [.int x4, .int x3, .int x2, .int x1]) cdn_L_law rfl (by decide) (Nat.le_of_ble_eq_true rfl) rfl rfl ht hS
set_option maxRecDepth 20000 in
theorem st_L_law_1478 {d : Nat} {L : am_L} {S : List Value} {h : am_H} {Q : Option Value → am_H → Prop} {x y : Int32} : AW d 0 1478 L (.int y :: .int x :: S) h Q = if x = y then AW d 0 1579 L S h Q else AW d 0 1481 L S h Q := AW_if cdn_L_law rfl rfl
set_option maxRecDepth 20000 in
theorem st_L_law_1481 {d : Nat} {L : am_L} {S : List Value} {h : am_H} {Q : Option Value → am_H → Prop} : AW d 0 1481 L S h Q = AW d 0 1482 L (.int 0 :: S) h Q := AW_n cdn_L_law rfl rfl
set_option maxRecDepth 20000 in
theorem st_L_law_1482 {d : Nat} {L : am_L} {h : am_H} {Q : Option Value → am_H → Prop} {x : Int32} (hx : x = 0 ∨ x = 1) : AW d 0 1482 L [.int x] h Q = Q (some (.int x)) h := AW_zret cdn_L_law rfl hx
set_option maxRecDepth 20000 in
theorem st_L_law_1483 {d : Nat} {S : List Value} {h : am_H} {Q : Option Value → am_H → Prop} {l0 l2 l3 : Option Value} {x : Nat} : AW d 0 1483 [l0, some (.ref x), l2, l3] S h Q = AW d 0 1484 [l0, some (.ref x), l2, l3] (.ref x :: S) h Q := AW_n cdn_L_law rfl rfl
set_option maxRecDepth 20000 in
theorem st_L_law_1484 {d : Nat} {S : List Value} {h : am_H} {Q : Option Value → am_H → Prop} {l1 l2 l3 : Option Value} {x : Nat} : AW d 0 1484 [some (.ref x), l1, l2, l3] S h Q = AW d 0 1485 [some (.ref x), l1, l2, l3] (.ref x :: S) h Q := AW_n cdn_L_law rfl rfl
set_option maxRecDepth 20000 in
theorem st_L_law_1485 {d : Nat} {S : List Value} {h : am_H} {Q : Option Value → am_H → Prop} {l0 l1 l2 : Option Value} {x : Int32} : AW d 0 1485 [l0, l1, l2, some (.int x)] S h Q = AW d 0 1486 [l0, l1, l2, some (.int x)] (.int x :: S) h Q := AW_n cdn_L_law rfl rfl
set_option maxRecDepth 20000 in
theorem st_L_law_1486 {d : Nat} {L : am_L} {S : List Value} {h : am_H} {Q : Option Value → am_H → Prop} : AW d 0 1486 L S h Q = AW d 0 1487 L (.int 1 :: S) h Q := AW_n cdn_L_law rfl rfl
set_option maxRecDepth 20000 in
theorem st_L_law_1487 {d : Nat} {L : am_L} {S : List Value} {h : am_H} {Q : Option Value → am_H → Prop} {x y : Int32} : AW d 0 1487 L (.int y :: .int x :: S) h Q = AW d 0 1488 L (.int (x + y) :: S) h Q := AW_n cdn_L_law rfl rfl
set_option maxRecDepth 20000 in
theorem st_L_law_1488 {d : Nat} {L : am_L} {S : List Value} {Q : Option Value → am_H → Prop} {c : List (Nat × Nat)} {a : Nat → Nat → Int32} {r : Nat → Nat → Option Nat} {i : Int32} {k : Nat} (ht : am_tag c k = 20) (hi : inb i (am_len c k)) : AW d 0 1488 L (.int i :: .ref k :: S) (c, a, r) Q = AW d 0 1489 L (.int (a k i.toNatClampNeg) :: S) (c, a, r) Q := AW_ald cdn_L_law rfl (by decide) ht hi
set_option maxRecDepth 20000 in
theorem st_L_law_1489 {d : Nat} {S : List Value} {h : am_H} {Q : Option Value → am_H → Prop} {l1 l2 l3 : Option Value} {x : Nat} : AW d 0 1489 [some (.ref x), l1, l2, l3] S h Q = AW d 0 1490 [some (.ref x), l1, l2, l3] (.ref x :: S) h Q := AW_n cdn_L_law rfl rfl
set_option maxRecDepth 20000 in
theorem st_L_law_1490 {d : Nat} {S : List Value} {h : am_H} {Q : Option Value → am_H → Prop} {l0 l1 l2 : Option Value} {x : Int32} : AW d 0 1490 [l0, l1, l2, some (.int x)] S h Q = AW d 0 1491 [l0, l1, l2, some (.int x)] (.int x :: S) h Q := AW_n cdn_L_law rfl rfl
set_option maxRecDepth 20000 in
theorem st_L_law_1491 {d : Nat} {L : am_L} {S : List Value} {h : am_H} {Q : Option Value → am_H → Prop} : AW d 0 1491 L S h Q = AW d 0 1492 L (.int 2 :: S) h Q := AW_n cdn_L_law rfl rfl
set_option maxRecDepth 20000 in
theorem st_L_law_1492 {d : Nat} {L : am_L} {S : List Value} {h : am_H} {Q : Option Value → am_H → Prop} {x y : Int32} : AW d 0 1492 L (.int y :: .int x :: S) h Q = AW d 0 1493 L (.int (x + y) :: S) h Q := AW_n cdn_L_law rfl rfl
set_option maxRecDepth 20000 in
theorem st_L_law_1493 {d : Nat} {L : am_L} {S : List Value} {Q : Option Value → am_H → Prop} {c : List (Nat × Nat)} {a : Nat → Nat → Int32} {r : Nat → Nat → Option Nat} {i : Int32} {k : Nat} (ht : am_tag c k = 20) (hi : inb i (am_len c k)) : AW d 0 1493 L (.int i :: .ref k :: S) (c, a, r) Q = AW d 0 1494 L (.int (a k i.toNatClampNeg) :: S) (c, a, r) Q := AW_ald cdn_L_law rfl (by decide) ht hi
set_option maxRecDepth 20000 in
theorem st_L_law_1494 {d : Nat} {S : List Value} {h : am_H} {Q : Option Value → am_H → Prop} {l1 l2 l3 : Option Value} {x : Nat} : AW d 0 1494 [some (.ref x), l1, l2, l3] S h Q = AW d 0 1495 [some (.ref x), l1, l2, l3] (.ref x :: S) h Q := AW_n cdn_L_law rfl rfl
set_option maxRecDepth 20000 in
theorem st_L_law_1495 {d : Nat} {S : List Value} {h : am_H} {Q : Option Value → am_H → Prop} {l0 l1 l2 : Option Value} {x : Int32} : AW d 0 1495 [l0, l1, l2, some (.int x)] S h Q = AW d 0 1496 [l0, l1, l2, some (.int x)] (.int x :: S) h Q := AW_n cdn_L_law rfl rfl
set_option maxRecDepth 20000 in
theorem st_L_law_1496 {d : Nat} {L : am_L} {S : List Value} {h : am_H} {Q : Option Value → am_H → Prop} : AW d 0 1496 L S h Q = AW d 0 1497 L (.int 3 :: S) h Q := AW_n cdn_L_law rfl rfl
set_option maxRecDepth 20000 in
theorem st_L_law_1497 {d : Nat} {L : am_L} {S : List Value} {h : am_H} {Q : Option Value → am_H → Prop} {x y : Int32} : AW d 0 1497 L (.int y :: .int x :: S) h Q = AW d 0 1498 L (.int (x + y) :: S) h Q := AW_n cdn_L_law rfl rfl
set_option maxRecDepth 20000 in
theorem st_L_law_1498 {d : Nat} {L : am_L} {S : List Value} {Q : Option Value → am_H → Prop} {c : List (Nat × Nat)} {a : Nat → Nat → Int32} {r : Nat → Nat → Option Nat} {i : Int32} {k : Nat} (ht : am_tag c k = 20) (hi : inb i (am_len c k)) : AW d 0 1498 L (.int i :: .ref k :: S) (c, a, r) Q = AW d 0 1499 L (.int (a k i.toNatClampNeg) :: S) (c, a, r) Q := AW_ald cdn_L_law rfl (by decide) ht hi
set_option maxRecDepth 20000 in
theorem st_L_law_1499 {d : Nat} {S : List Value} {h : am_H} {Q : Option Value → am_H → Prop} {l1 l2 l3 : Option Value} {x : Nat} : AW d 0 1499 [some (.ref x), l1, l2, l3] S h Q = AW d 0 1500 [some (.ref x), l1, l2, l3] (.ref x :: S) h Q := AW_n cdn_L_law rfl rfl
set_option maxRecDepth 20000 in
theorem st_L_law_1500 {d : Nat} {S : List Value} {h : am_H} {Q : Option Value → am_H → Prop} {l0 l1 l2 : Option Value} {x : Int32} : AW d 0 1500 [l0, l1, l2, some (.int x)] S h Q = AW d 0 1501 [l0, l1, l2, some (.int x)] (.int x :: S) h Q := AW_n cdn_L_law rfl rfl
set_option maxRecDepth 20000 in
theorem st_L_law_1501 {d : Nat} {L : am_L} {S : List Value} {h : am_H} {Q : Option Value → am_H → Prop} : AW d 0 1501 L S h Q = AW d 0 1502 L (.int 4 :: S) h Q := AW_n cdn_L_law rfl rfl
set_option maxRecDepth 20000 in
theorem st_L_law_1502 {d : Nat} {L : am_L} {S : List Value} {h : am_H} {Q : Option Value → am_H → Prop} {x y : Int32} : AW d 0 1502 L (.int y :: .int x :: S) h Q = AW d 0 1503 L (.int (x + y) :: S) h Q := AW_n cdn_L_law rfl rfl
set_option maxRecDepth 20000 in
theorem st_L_law_1503 {d : Nat} {L : am_L} {S : List Value} {Q : Option Value → am_H → Prop} {c : List (Nat × Nat)} {a : Nat → Nat → Int32} {r : Nat → Nat → Option Nat} {i : Int32} {k : Nat} (ht : am_tag c k = 20) (hi : inb i (am_len c k)) : AW d 0 1503 L (.int i :: .ref k :: S) (c, a, r) Q = AW d 0 1504 L (.int (a k i.toNatClampNeg) :: S) (c, a, r) Q := AW_ald cdn_L_law rfl (by decide) ht hi
set_option maxRecDepth 20000 in
theorem st_L_law_1504 {d : Nat} {S : List Value} {h : am_H} {Q : Option Value → am_H → Prop} {l1 l2 l3 : Option Value} {x : Nat} : AW d 0 1504 [some (.ref x), l1, l2, l3] S h Q = AW d 0 1505 [some (.ref x), l1, l2, l3] (.ref x :: S) h Q := AW_n cdn_L_law rfl rfl
set_option maxRecDepth 20000 in
theorem st_L_law_1505 {d : Nat} {S : List Value} {h : am_H} {Q : Option Value → am_H → Prop} {l0 l1 l2 : Option Value} {x : Int32} : AW d 0 1505 [l0, l1, l2, some (.int x)] S h Q = AW d 0 1506 [l0, l1, l2, some (.int x)] (.int x :: S) h Q := AW_n cdn_L_law rfl rfl
set_option maxRecDepth 20000 in
theorem st_L_law_1506 {d : Nat} {L : am_L} {S : List Value} {h : am_H} {Q : Option Value → am_H → Prop} : AW d 0 1506 L S h Q = AW d 0 1507 L (.int 5 :: S) h Q := AW_n cdn_L_law rfl rfl
set_option maxRecDepth 20000 in
theorem st_L_law_1507 {d : Nat} {L : am_L} {S : List Value} {h : am_H} {Q : Option Value → am_H → Prop} {x y : Int32} : AW d 0 1507 L (.int y :: .int x :: S) h Q = AW d 0 1508 L (.int (x + y) :: S) h Q := AW_n cdn_L_law rfl rfl
set_option maxRecDepth 20000 in
theorem st_L_law_1508 {d : Nat} {L : am_L} {S : List Value} {Q : Option Value → am_H → Prop} {c : List (Nat × Nat)} {a : Nat → Nat → Int32} {r : Nat → Nat → Option Nat} {i : Int32} {k : Nat} (ht : am_tag c k = 20) (hi : inb i (am_len c k)) : AW d 0 1508 L (.int i :: .ref k :: S) (c, a, r) Q = AW d 0 1509 L (.int (a k i.toNatClampNeg) :: S) (c, a, r) Q := AW_ald cdn_L_law rfl (by decide) ht hi
set_option maxRecDepth 20000 in
theorem st_L_law_1509 {d : Nat} {L : am_L} {S : List Value} {Q : Option Value → am_H → Prop} {c : List (Nat × Nat)} {a : Nat → Nat → Int32} {r : Nat → Nat → Option Nat} {k : Nat} {x1 : Int32} {x2 : Int32} {x3 : Int32} {x4 : Int32} {x5 : Int32} (ht : am_tag c k = 9) (hS : (S.map fun v => v.category).sum ≤ 8) : AW (d + 1) 0 1509 L (.int x5 :: .int x4 :: .int x3 :: .int x2 :: .int x1 :: .ref k :: S) (c, a, r) Q = CALL d 107 [.ref k, .int x1, .int x2, .int x3, .int x4, .int x5] (c, a, r) (fun v h9 => AW (d + 1) 0 1512 L (v.toList ++ S) h9 Q) := AW_invV (n := 5) (t := [.int x5, .int x4, .int x3, .int x2, .int x1]) cdn_L_law rfl (by decide) (Nat.le_of_ble_eq_true rfl) rfl rfl ht hS
set_option maxRecDepth 20000 in
theorem st_L_law_1512 {d : Nat} {S : List Value} {h : am_H} {Q : Option Value → am_H → Prop} {l0 l1 l3 : Option Value} {x : Nat} : AW d 0 1512 [l0, l1, some (.ref x), l3] S h Q = AW d 0 1513 [l0, l1, some (.ref x), l3] (.ref x :: S) h Q := AW_n cdn_L_law rfl rfl
set_option maxRecDepth 20000 in
theorem st_L_law_1513 {d : Nat} {S : List Value} {h : am_H} {Q : Option Value → am_H → Prop} {l1 l2 l3 : Option Value} {x : Nat} : AW d 0 1513 [some (.ref x), l1, l2, l3] S h Q = AW d 0 1514 [some (.ref x), l1, l2, l3] (.ref x :: S) h Q := AW_n cdn_L_law rfl rfl
set_option maxRecDepth 20000 in
theorem st_L_law_1514 {d : Nat} {S : List Value} {h : am_H} {Q : Option Value → am_H → Prop} {l0 l1 l2 : Option Value} {x : Int32} : AW d 0 1514 [l0, l1, l2, some (.int x)] S h Q = AW d 0 1515 [l0, l1, l2, some (.int x)] (.int x :: S) h Q := AW_n cdn_L_law rfl rfl
set_option maxRecDepth 20000 in
theorem st_L_law_1515 {d : Nat} {L : am_L} {S : List Value} {h : am_H} {Q : Option Value → am_H → Prop} : AW d 0 1515 L S h Q = AW d 0 1516 L (.int 1 :: S) h Q := AW_n cdn_L_law rfl rfl
set_option maxRecDepth 20000 in
theorem st_L_law_1516 {d : Nat} {L : am_L} {S : List Value} {h : am_H} {Q : Option Value → am_H → Prop} {x y : Int32} : AW d 0 1516 L (.int y :: .int x :: S) h Q = AW d 0 1517 L (.int (x + y) :: S) h Q := AW_n cdn_L_law rfl rfl
set_option maxRecDepth 20000 in
theorem st_L_law_1517 {d : Nat} {L : am_L} {S : List Value} {Q : Option Value → am_H → Prop} {c : List (Nat × Nat)} {a : Nat → Nat → Int32} {r : Nat → Nat → Option Nat} {i : Int32} {k : Nat} (ht : am_tag c k = 20) (hi : inb i (am_len c k)) : AW d 0 1517 L (.int i :: .ref k :: S) (c, a, r) Q = AW d 0 1518 L (.int (a k i.toNatClampNeg) :: S) (c, a, r) Q := AW_ald cdn_L_law rfl (by decide) ht hi
set_option maxRecDepth 20000 in
theorem st_L_law_1518 {d : Nat} {S : List Value} {h : am_H} {Q : Option Value → am_H → Prop} {l1 l2 l3 : Option Value} {x : Nat} : AW d 0 1518 [some (.ref x), l1, l2, l3] S h Q = AW d 0 1519 [some (.ref x), l1, l2, l3] (.ref x :: S) h Q := AW_n cdn_L_law rfl rfl
set_option maxRecDepth 20000 in
theorem st_L_law_1519 {d : Nat} {S : List Value} {h : am_H} {Q : Option Value → am_H → Prop} {l0 l1 l2 : Option Value} {x : Int32} : AW d 0 1519 [l0, l1, l2, some (.int x)] S h Q = AW d 0 1520 [l0, l1, l2, some (.int x)] (.int x :: S) h Q := AW_n cdn_L_law rfl rfl
set_option maxRecDepth 20000 in
theorem st_L_law_1520 {d : Nat} {L : am_L} {S : List Value} {h : am_H} {Q : Option Value → am_H → Prop} : AW d 0 1520 L S h Q = AW d 0 1521 L (.int 2 :: S) h Q := AW_n cdn_L_law rfl rfl
set_option maxRecDepth 20000 in
theorem st_L_law_1521 {d : Nat} {L : am_L} {S : List Value} {h : am_H} {Q : Option Value → am_H → Prop} {x y : Int32} : AW d 0 1521 L (.int y :: .int x :: S) h Q = AW d 0 1522 L (.int (x + y) :: S) h Q := AW_n cdn_L_law rfl rfl
set_option maxRecDepth 20000 in
theorem st_L_law_1522 {d : Nat} {L : am_L} {S : List Value} {Q : Option Value → am_H → Prop} {c : List (Nat × Nat)} {a : Nat → Nat → Int32} {r : Nat → Nat → Option Nat} {i : Int32} {k : Nat} (ht : am_tag c k = 20) (hi : inb i (am_len c k)) : AW d 0 1522 L (.int i :: .ref k :: S) (c, a, r) Q = AW d 0 1523 L (.int (a k i.toNatClampNeg) :: S) (c, a, r) Q := AW_ald cdn_L_law rfl (by decide) ht hi
set_option maxRecDepth 20000 in
theorem st_L_law_1523 {d : Nat} {S : List Value} {h : am_H} {Q : Option Value → am_H → Prop} {l1 l2 l3 : Option Value} {x : Nat} : AW d 0 1523 [some (.ref x), l1, l2, l3] S h Q = AW d 0 1524 [some (.ref x), l1, l2, l3] (.ref x :: S) h Q := AW_n cdn_L_law rfl rfl
set_option maxRecDepth 20000 in
theorem st_L_law_1524 {d : Nat} {S : List Value} {h : am_H} {Q : Option Value → am_H → Prop} {l0 l1 l2 : Option Value} {x : Int32} : AW d 0 1524 [l0, l1, l2, some (.int x)] S h Q = AW d 0 1525 [l0, l1, l2, some (.int x)] (.int x :: S) h Q := AW_n cdn_L_law rfl rfl
set_option maxRecDepth 20000 in
theorem st_L_law_1525 {d : Nat} {L : am_L} {S : List Value} {h : am_H} {Q : Option Value → am_H → Prop} : AW d 0 1525 L S h Q = AW d 0 1526 L (.int 3 :: S) h Q := AW_n cdn_L_law rfl rfl
set_option maxRecDepth 20000 in
theorem st_L_law_1526 {d : Nat} {L : am_L} {S : List Value} {h : am_H} {Q : Option Value → am_H → Prop} {x y : Int32} : AW d 0 1526 L (.int y :: .int x :: S) h Q = AW d 0 1527 L (.int (x + y) :: S) h Q := AW_n cdn_L_law rfl rfl
set_option maxRecDepth 20000 in
theorem st_L_law_1527 {d : Nat} {L : am_L} {S : List Value} {Q : Option Value → am_H → Prop} {c : List (Nat × Nat)} {a : Nat → Nat → Int32} {r : Nat → Nat → Option Nat} {i : Int32} {k : Nat} (ht : am_tag c k = 20) (hi : inb i (am_len c k)) : AW d 0 1527 L (.int i :: .ref k :: S) (c, a, r) Q = AW d 0 1528 L (.int (a k i.toNatClampNeg) :: S) (c, a, r) Q := AW_ald cdn_L_law rfl (by decide) ht hi
set_option maxRecDepth 20000 in
theorem st_L_law_1528 {d : Nat} {S : List Value} {h : am_H} {Q : Option Value → am_H → Prop} {l1 l2 l3 : Option Value} {x : Nat} : AW d 0 1528 [some (.ref x), l1, l2, l3] S h Q = AW d 0 1529 [some (.ref x), l1, l2, l3] (.ref x :: S) h Q := AW_n cdn_L_law rfl rfl
set_option maxRecDepth 20000 in
theorem st_L_law_1529 {d : Nat} {S : List Value} {h : am_H} {Q : Option Value → am_H → Prop} {l0 l1 l2 : Option Value} {x : Int32} : AW d 0 1529 [l0, l1, l2, some (.int x)] S h Q = AW d 0 1530 [l0, l1, l2, some (.int x)] (.int x :: S) h Q := AW_n cdn_L_law rfl rfl
set_option maxRecDepth 20000 in
theorem st_L_law_1530 {d : Nat} {L : am_L} {S : List Value} {h : am_H} {Q : Option Value → am_H → Prop} : AW d 0 1530 L S h Q = AW d 0 1531 L (.int 4 :: S) h Q := AW_n cdn_L_law rfl rfl
set_option maxRecDepth 20000 in
theorem st_L_law_1531 {d : Nat} {L : am_L} {S : List Value} {h : am_H} {Q : Option Value → am_H → Prop} {x y : Int32} : AW d 0 1531 L (.int y :: .int x :: S) h Q = AW d 0 1532 L (.int (x + y) :: S) h Q := AW_n cdn_L_law rfl rfl
set_option maxRecDepth 20000 in
theorem st_L_law_1532 {d : Nat} {L : am_L} {S : List Value} {Q : Option Value → am_H → Prop} {c : List (Nat × Nat)} {a : Nat → Nat → Int32} {r : Nat → Nat → Option Nat} {i : Int32} {k : Nat} (ht : am_tag c k = 20) (hi : inb i (am_len c k)) : AW d 0 1532 L (.int i :: .ref k :: S) (c, a, r) Q = AW d 0 1533 L (.int (a k i.toNatClampNeg) :: S) (c, a, r) Q := AW_ald cdn_L_law rfl (by decide) ht hi
set_option maxRecDepth 20000 in
theorem st_L_law_1533 {d : Nat} {S : List Value} {h : am_H} {Q : Option Value → am_H → Prop} {l1 l2 l3 : Option Value} {x : Nat} : AW d 0 1533 [some (.ref x), l1, l2, l3] S h Q = AW d 0 1534 [some (.ref x), l1, l2, l3] (.ref x :: S) h Q := AW_n cdn_L_law rfl rfl
set_option maxRecDepth 20000 in
theorem st_L_law_1534 {d : Nat} {S : List Value} {h : am_H} {Q : Option Value → am_H → Prop} {l0 l1 l2 : Option Value} {x : Int32} : AW d 0 1534 [l0, l1, l2, some (.int x)] S h Q = AW d 0 1535 [l0, l1, l2, some (.int x)] (.int x :: S) h Q := AW_n cdn_L_law rfl rfl
set_option maxRecDepth 20000 in
theorem st_L_law_1535 {d : Nat} {L : am_L} {S : List Value} {h : am_H} {Q : Option Value → am_H → Prop} : AW d 0 1535 L S h Q = AW d 0 1536 L (.int 5 :: S) h Q := AW_n cdn_L_law rfl rfl
set_option maxRecDepth 20000 in
theorem st_L_law_1536 {d : Nat} {L : am_L} {S : List Value} {h : am_H} {Q : Option Value → am_H → Prop} {x y : Int32} : AW d 0 1536 L (.int y :: .int x :: S) h Q = AW d 0 1537 L (.int (x + y) :: S) h Q := AW_n cdn_L_law rfl rfl
set_option maxRecDepth 20000 in
theorem st_L_law_1537 {d : Nat} {L : am_L} {S : List Value} {Q : Option Value → am_H → Prop} {c : List (Nat × Nat)} {a : Nat → Nat → Int32} {r : Nat → Nat → Option Nat} {i : Int32} {k : Nat} (ht : am_tag c k = 20) (hi : inb i (am_len c k)) : AW d 0 1537 L (.int i :: .ref k :: S) (c, a, r) Q = AW d 0 1538 L (.int (a k i.toNatClampNeg) :: S) (c, a, r) Q := AW_ald cdn_L_law rfl (by decide) ht hi
set_option maxRecDepth 20000 in
theorem st_L_law_1538 {d : Nat} {L : am_L} {S : List Value} {Q : Option Value → am_H → Prop} {c : List (Nat × Nat)} {a : Nat → Nat → Int32} {r : Nat → Nat → Option Nat} {k : Nat} {x1 : Int32} {x2 : Int32} {x3 : Int32} {x4 : Int32} {x5 : Int32} (ht : am_tag c k = 10) (hS : (S.map fun v => v.category).sum ≤ 8) : AW (d + 1) 0 1538 L (.int x5 :: .int x4 :: .int x3 :: .int x2 :: .int x1 :: .ref k :: S) (c, a, r) Q = CALL d 200 [.ref k, .int x1, .int x2, .int x3, .int x4, .int x5] (c, a, r) (fun v h9 => AW (d + 1) 0 1541 L (v.toList ++ S) h9 Q) := AW_invV (n := 5) (t := [.int x5, .int x4, .int x3, .int x2, .int x1]) cdn_L_law rfl (by decide) (Nat.le_of_ble_eq_true rfl) rfl rfl ht hS
set_option maxRecDepth 20000 in
theorem st_L_law_1541 {d : Nat} {L : am_L} {S : List Value} {h : am_H} {Q : Option Value → am_H → Prop} {x y : Int32} : AW d 0 1541 L (.int y :: .int x :: S) h Q = if x = y then AW d 0 1579 L S h Q else AW d 0 1544 L S h Q := AW_if cdn_L_law rfl rfl
set_option maxRecDepth 20000 in
theorem st_L_law_1544 {d : Nat} {L : am_L} {S : List Value} {h : am_H} {Q : Option Value → am_H → Prop} : AW d 0 1544 L S h Q = AW d 0 1545 L (.int 0 :: S) h Q := AW_n cdn_L_law rfl rfl
set_option maxRecDepth 20000 in
theorem st_L_law_1545 {d : Nat} {L : am_L} {h : am_H} {Q : Option Value → am_H → Prop} {x : Int32} (hx : x = 0 ∨ x = 1) : AW d 0 1545 L [.int x] h Q = Q (some (.int x)) h := AW_zret cdn_L_law rfl hx
set_option maxRecDepth 20000 in
theorem st_L_law_1546 {d : Nat} {S : List Value} {h : am_H} {Q : Option Value → am_H → Prop} {l0 l2 l3 : Option Value} {x : Nat} : AW d 0 1546 [l0, some (.ref x), l2, l3] S h Q = AW d 0 1547 [l0, some (.ref x), l2, l3] (.ref x :: S) h Q := AW_n cdn_L_law rfl rfl
set_option maxRecDepth 20000 in
theorem st_L_law_1547 {d : Nat} {S : List Value} {h : am_H} {Q : Option Value → am_H → Prop} {l1 l2 l3 : Option Value} {x : Nat} : AW d 0 1547 [some (.ref x), l1, l2, l3] S h Q = AW d 0 1548 [some (.ref x), l1, l2, l3] (.ref x :: S) h Q := AW_n cdn_L_law rfl rfl
set_option maxRecDepth 20000 in
theorem st_L_law_1548 {d : Nat} {S : List Value} {h : am_H} {Q : Option Value → am_H → Prop} {l0 l1 l2 : Option Value} {x : Int32} : AW d 0 1548 [l0, l1, l2, some (.int x)] S h Q = AW d 0 1549 [l0, l1, l2, some (.int x)] (.int x :: S) h Q := AW_n cdn_L_law rfl rfl
set_option maxRecDepth 20000 in
theorem st_L_law_1549 {d : Nat} {L : am_L} {S : List Value} {h : am_H} {Q : Option Value → am_H → Prop} : AW d 0 1549 L S h Q = AW d 0 1550 L (.int 1 :: S) h Q := AW_n cdn_L_law rfl rfl
set_option maxRecDepth 20000 in
theorem st_L_law_1550 {d : Nat} {L : am_L} {S : List Value} {h : am_H} {Q : Option Value → am_H → Prop} {x y : Int32} : AW d 0 1550 L (.int y :: .int x :: S) h Q = AW d 0 1551 L (.int (x + y) :: S) h Q := AW_n cdn_L_law rfl rfl
set_option maxRecDepth 20000 in
theorem st_L_law_1551 {d : Nat} {L : am_L} {S : List Value} {Q : Option Value → am_H → Prop} {c : List (Nat × Nat)} {a : Nat → Nat → Int32} {r : Nat → Nat → Option Nat} {i : Int32} {k : Nat} (ht : am_tag c k = 20) (hi : inb i (am_len c k)) : AW d 0 1551 L (.int i :: .ref k :: S) (c, a, r) Q = AW d 0 1552 L (.int (a k i.toNatClampNeg) :: S) (c, a, r) Q := AW_ald cdn_L_law rfl (by decide) ht hi
set_option maxRecDepth 20000 in
theorem st_L_law_1552 {d : Nat} {S : List Value} {h : am_H} {Q : Option Value → am_H → Prop} {l1 l2 l3 : Option Value} {x : Nat} : AW d 0 1552 [some (.ref x), l1, l2, l3] S h Q = AW d 0 1553 [some (.ref x), l1, l2, l3] (.ref x :: S) h Q := AW_n cdn_L_law rfl rfl
set_option maxRecDepth 20000 in
theorem st_L_law_1553 {d : Nat} {S : List Value} {h : am_H} {Q : Option Value → am_H → Prop} {l0 l1 l2 : Option Value} {x : Int32} : AW d 0 1553 [l0, l1, l2, some (.int x)] S h Q = AW d 0 1554 [l0, l1, l2, some (.int x)] (.int x :: S) h Q := AW_n cdn_L_law rfl rfl
set_option maxRecDepth 20000 in
theorem st_L_law_1554 {d : Nat} {L : am_L} {S : List Value} {h : am_H} {Q : Option Value → am_H → Prop} : AW d 0 1554 L S h Q = AW d 0 1555 L (.int 2 :: S) h Q := AW_n cdn_L_law rfl rfl
set_option maxRecDepth 20000 in
theorem st_L_law_1555 {d : Nat} {L : am_L} {S : List Value} {h : am_H} {Q : Option Value → am_H → Prop} {x y : Int32} : AW d 0 1555 L (.int y :: .int x :: S) h Q = AW d 0 1556 L (.int (x + y) :: S) h Q := AW_n cdn_L_law rfl rfl
set_option maxRecDepth 20000 in
theorem st_L_law_1556 {d : Nat} {L : am_L} {S : List Value} {Q : Option Value → am_H → Prop} {c : List (Nat × Nat)} {a : Nat → Nat → Int32} {r : Nat → Nat → Option Nat} {i : Int32} {k : Nat} (ht : am_tag c k = 20) (hi : inb i (am_len c k)) : AW d 0 1556 L (.int i :: .ref k :: S) (c, a, r) Q = AW d 0 1557 L (.int (a k i.toNatClampNeg) :: S) (c, a, r) Q := AW_ald cdn_L_law rfl (by decide) ht hi
set_option maxRecDepth 20000 in
theorem st_L_law_1557 {d : Nat} {L : am_L} {S : List Value} {Q : Option Value → am_H → Prop} {c : List (Nat × Nat)} {a : Nat → Nat → Int32} {r : Nat → Nat → Option Nat} {k : Nat} {x1 : Int32} {x2 : Int32} (ht : am_tag c k = 9) (hS : (S.map fun v => v.category).sum ≤ 8) : AW (d + 1) 0 1557 L (.int x2 :: .int x1 :: .ref k :: S) (c, a, r) Q = CALL d 108 [.ref k, .int x1, .int x2] (c, a, r) (fun v h9 => AW (d + 1) 0 1560 L (v.toList ++ S) h9 Q) := AW_invV (n := 2) (t := [.int x2, .int x1]) cdn_L_law rfl (by decide) (Nat.le_of_ble_eq_true rfl) rfl rfl ht hS
set_option maxRecDepth 20000 in
theorem st_L_law_1560 {d : Nat} {S : List Value} {h : am_H} {Q : Option Value → am_H → Prop} {l0 l1 l3 : Option Value} {x : Nat} : AW d 0 1560 [l0, l1, some (.ref x), l3] S h Q = AW d 0 1561 [l0, l1, some (.ref x), l3] (.ref x :: S) h Q := AW_n cdn_L_law rfl rfl
set_option maxRecDepth 20000 in
theorem st_L_law_1561 {d : Nat} {S : List Value} {h : am_H} {Q : Option Value → am_H → Prop} {l1 l2 l3 : Option Value} {x : Nat} : AW d 0 1561 [some (.ref x), l1, l2, l3] S h Q = AW d 0 1562 [some (.ref x), l1, l2, l3] (.ref x :: S) h Q := AW_n cdn_L_law rfl rfl
set_option maxRecDepth 20000 in
theorem st_L_law_1562 {d : Nat} {S : List Value} {h : am_H} {Q : Option Value → am_H → Prop} {l0 l1 l2 : Option Value} {x : Int32} : AW d 0 1562 [l0, l1, l2, some (.int x)] S h Q = AW d 0 1563 [l0, l1, l2, some (.int x)] (.int x :: S) h Q := AW_n cdn_L_law rfl rfl
set_option maxRecDepth 20000 in
theorem st_L_law_1563 {d : Nat} {L : am_L} {S : List Value} {h : am_H} {Q : Option Value → am_H → Prop} : AW d 0 1563 L S h Q = AW d 0 1564 L (.int 1 :: S) h Q := AW_n cdn_L_law rfl rfl
set_option maxRecDepth 20000 in
theorem st_L_law_1564 {d : Nat} {L : am_L} {S : List Value} {h : am_H} {Q : Option Value → am_H → Prop} {x y : Int32} : AW d 0 1564 L (.int y :: .int x :: S) h Q = AW d 0 1565 L (.int (x + y) :: S) h Q := AW_n cdn_L_law rfl rfl
set_option maxRecDepth 20000 in
theorem st_L_law_1565 {d : Nat} {L : am_L} {S : List Value} {Q : Option Value → am_H → Prop} {c : List (Nat × Nat)} {a : Nat → Nat → Int32} {r : Nat → Nat → Option Nat} {i : Int32} {k : Nat} (ht : am_tag c k = 20) (hi : inb i (am_len c k)) : AW d 0 1565 L (.int i :: .ref k :: S) (c, a, r) Q = AW d 0 1566 L (.int (a k i.toNatClampNeg) :: S) (c, a, r) Q := AW_ald cdn_L_law rfl (by decide) ht hi
set_option maxRecDepth 20000 in
theorem st_L_law_1566 {d : Nat} {S : List Value} {h : am_H} {Q : Option Value → am_H → Prop} {l1 l2 l3 : Option Value} {x : Nat} : AW d 0 1566 [some (.ref x), l1, l2, l3] S h Q = AW d 0 1567 [some (.ref x), l1, l2, l3] (.ref x :: S) h Q := AW_n cdn_L_law rfl rfl
set_option maxRecDepth 20000 in
theorem st_L_law_1567 {d : Nat} {S : List Value} {h : am_H} {Q : Option Value → am_H → Prop} {l0 l1 l2 : Option Value} {x : Int32} : AW d 0 1567 [l0, l1, l2, some (.int x)] S h Q = AW d 0 1568 [l0, l1, l2, some (.int x)] (.int x :: S) h Q := AW_n cdn_L_law rfl rfl
set_option maxRecDepth 20000 in
theorem st_L_law_1568 {d : Nat} {L : am_L} {S : List Value} {h : am_H} {Q : Option Value → am_H → Prop} : AW d 0 1568 L S h Q = AW d 0 1569 L (.int 2 :: S) h Q := AW_n cdn_L_law rfl rfl
set_option maxRecDepth 20000 in
theorem st_L_law_1569 {d : Nat} {L : am_L} {S : List Value} {h : am_H} {Q : Option Value → am_H → Prop} {x y : Int32} : AW d 0 1569 L (.int y :: .int x :: S) h Q = AW d 0 1570 L (.int (x + y) :: S) h Q := AW_n cdn_L_law rfl rfl
set_option maxRecDepth 20000 in
theorem st_L_law_1570 {d : Nat} {L : am_L} {S : List Value} {Q : Option Value → am_H → Prop} {c : List (Nat × Nat)} {a : Nat → Nat → Int32} {r : Nat → Nat → Option Nat} {i : Int32} {k : Nat} (ht : am_tag c k = 20) (hi : inb i (am_len c k)) : AW d 0 1570 L (.int i :: .ref k :: S) (c, a, r) Q = AW d 0 1571 L (.int (a k i.toNatClampNeg) :: S) (c, a, r) Q := AW_ald cdn_L_law rfl (by decide) ht hi
set_option maxRecDepth 20000 in
theorem st_L_law_1571 {d : Nat} {L : am_L} {S : List Value} {Q : Option Value → am_H → Prop} {c : List (Nat × Nat)} {a : Nat → Nat → Int32} {r : Nat → Nat → Option Nat} {k : Nat} {x1 : Int32} {x2 : Int32} (ht : am_tag c k = 10) (hS : (S.map fun v => v.category).sum ≤ 8) : AW (d + 1) 0 1571 L (.int x2 :: .int x1 :: .ref k :: S) (c, a, r) Q = CALL d 201 [.ref k, .int x1, .int x2] (c, a, r) (fun v h9 => AW (d + 1) 0 1574 L (v.toList ++ S) h9 Q) := AW_invV (n := 2) (t := [.int x2, .int x1]) cdn_L_law rfl (by decide) (Nat.le_of_ble_eq_true rfl) rfl rfl ht hS
set_option maxRecDepth 20000 in
theorem st_L_law_1574 {d : Nat} {L : am_L} {S : List Value} {h : am_H} {Q : Option Value → am_H → Prop} {x y : Int32} : AW d 0 1574 L (.int y :: .int x :: S) h Q = if x = y then AW d 0 1579 L S h Q else AW d 0 1577 L S h Q := AW_if cdn_L_law rfl rfl
set_option maxRecDepth 20000 in
theorem st_L_law_1577 {d : Nat} {L : am_L} {S : List Value} {h : am_H} {Q : Option Value → am_H → Prop} : AW d 0 1577 L S h Q = AW d 0 1578 L (.int 0 :: S) h Q := AW_n cdn_L_law rfl rfl
set_option maxRecDepth 20000 in
theorem st_L_law_1578 {d : Nat} {L : am_L} {h : am_H} {Q : Option Value → am_H → Prop} {x : Int32} (hx : x = 0 ∨ x = 1) : AW d 0 1578 L [.int x] h Q = Q (some (.int x)) h := AW_zret cdn_L_law rfl hx
set_option maxRecDepth 20000 in
theorem st_L_law_1579 {d : Nat} {S : List Value} {h : am_H} {Q : Option Value → am_H → Prop} {l0 l1 l2 : Option Value} {x : Int32} : AW d 0 1579 [l0, l1, l2, some (.int x)] S h Q = AW d 0 1582 [l0, l1, am_nl l2, some (.int (x + 6))] S h Q := AW_n cdn_L_law rfl rfl
set_option maxRecDepth 20000 in
theorem st_L_law_1582 {d : Nat} {L : am_L} {S : List Value} {h : am_H} {Q : Option Value → am_H → Prop} : AW d 0 1582 L S h Q = AW d 0 18 L S h Q := AW_n cdn_L_law rfl rfl
set_option maxRecDepth 20000 in
theorem st_L_law_1585 {d : Nat} {L : am_L} {S : List Value} {h : am_H} {Q : Option Value → am_H → Prop} : AW d 0 1585 L S h Q = AW d 0 1586 L (.int 1 :: S) h Q := AW_n cdn_L_law rfl rfl
set_option maxRecDepth 20000 in
theorem st_L_law_1586 {d : Nat} {L : am_L} {h : am_H} {Q : Option Value → am_H → Prop} {x : Int32} (hx : x = 0 ∨ x = 1) : AW d 0 1586 L [.int x] h Q = Q (some (.int x)) h := AW_zret cdn_L_law rfl hx
