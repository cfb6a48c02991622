/-- the cells of the world X by their places -/
def ceX (g : Gx) : Ce := fun k f h => match k with
  | 0 => .inr (7, [.ref (g.2.1 1), .ref (g.2.1 7), .ref (g.2.1 8), .ref (g.2.1 25), .ref (g.2.1 42), .ref (g.2.1 59), .ref (g.2.1 61), .ref (g.2.1 63), .ref (g.2.1 65), .ref (g.2.1 67), .ref (g.2.1 69), .int (f 11), .int (f 12), .int (f 13)])
  | 1 => .inr (3, [.int (f 0), .int (f 1), .int (f 2), .ref (g.2.1 2), .int (f 4), .ref (g.2.1 3), .ref (g.2.1 4), .ref (g.2.1 5), .ref (g.2.1 6), .int (f 9), .int (f 10)])
  | 2 => .inl (g.2.2.1, 5, .inl f)
  | 3 => .inl (g.2.2.1, 3, .inl f)
  | 4 => .inl (g.2.2.1, 3, .inl f)
  | 5 => .inl (g.2.2.1, 3, .inl f)
  | 6 => .inl (g.2.2.1, 3, .inl f)
  | 7 => .inl (g.2.2.1, 6, .inl f)
  | 8 => .inr (4, [.ref (g.2.1 9), .ref (g.2.1 17), .ref (g.2.1 24)])
  | 9 => .inl (g.2.2.2.2.2, 7, .inr (.inr (.inr (.inr (fun i => if i < 7 then some (g.2.1 (10 + i)) else none)))))
  | 10 => .inl (g.2.2.2.1, 13, .inr (.inl h))
  | 11 => .inl (g.2.2.2.1, 13, .inr (.inl h))
  | 12 => .inl (g.2.2.2.1, 13, .inr (.inl h))
  | 13 => .inl (g.2.2.2.1, 13, .inr (.inl h))
  | 14 => .inl (g.2.2.2.1, 13, .inr (.inl h))
  | 15 => .inl (g.2.2.2.1, 13, .inr (.inl h))
  | 16 => .inl (g.2.2.2.1, 13, .inr (.inl h))
  | 17 => .inl (g.2.2.2.2.1, 6, .inr (.inr (.inr (.inr (fun i => if i < 6 then some (g.2.1 (18 + i)) else none)))))
  | 18 => .inl (g.2.2.1, 13, .inl f)
  | 19 => .inl (g.2.2.1, 13, .inl f)
  | 20 => .inl (g.2.2.1, 13, .inl f)
  | 21 => .inl (g.2.2.1, 13, .inl f)
  | 22 => .inl (g.2.2.1, 13, .inl f)
  | 23 => .inl (g.2.2.1, 13, .inl f)
  | 24 => .inl (g.2.2.2.1, 13, .inr (.inl h))
  | 25 => .inr (4, [.ref (g.2.1 26), .ref (g.2.1 34), .ref (g.2.1 41)])
  | 26 => .inl (g.2.2.2.2.2, 7, .inr (.inr (.inr (.inr (fun i => if i < 7 then some (g.2.1 (27 + i)) else none)))))
  | 27 => .inl (g.2.2.2.1, 13, .inr (.inl h))
  | 28 => .inl (g.2.2.2.1, 13, .inr (.inl h))
  | 29 => .inl (g.2.2.2.1, 13, .inr (.inl h))
  | 30 => .inl (g.2.2.2.1, 13, .inr (.inl h))
  | 31 => .inl (g.2.2.2.1, 13, .inr (.inl h))
  | 32 => .inl (g.2.2.2.1, 13, .inr (.inl h))
  | 33 => .inl (g.2.2.2.1, 13, .inr (.inl h))
  | 34 => .inl (g.2.2.2.2.1, 6, .inr (.inr (.inr (.inr (fun i => if i < 6 then some (g.2.1 (35 + i)) else none)))))
  | 35 => .inl (g.2.2.1, 13, .inl f)
  | 36 => .inl (g.2.2.1, 13, .inl f)
  | 37 => .inl (g.2.2.1, 13, .inl f)
  | 38 => .inl (g.2.2.1, 13, .inl f)
  | 39 => .inl (g.2.2.1, 13, .inl f)
  | 40 => .inl (g.2.2.1, 13, .inl f)
  | 41 => .inl (g.2.2.2.1, 13, .inr (.inl h))
  | 42 => .inr (6, [.ref (g.2.1 43), .ref (g.2.1 51), .ref (g.2.1 52)])
  | 43 => .inl (g.2.2.2.2.2, 7, .inr (.inr (.inr (.inr (fun i => if i < 7 then some (g.2.1 (44 + i)) else none)))))
  | 44 => .inl (g.2.2.2.1, 13, .inr (.inl h))
  | 45 => .inl (g.2.2.2.1, 13, .inr (.inl h))
  | 46 => .inl (g.2.2.2.1, 13, .inr (.inl h))
  | 47 => .inl (g.2.2.2.1, 13, .inr (.inl h))
  | 48 => .inl (g.2.2.2.1, 13, .inr (.inl h))
  | 49 => .inl (g.2.2.2.1, 13, .inr (.inl h))
  | 50 => .inl (g.2.2.2.1, 13, .inr (.inl h))
  | 51 => .inl (g.2.2.2.1, 7, .inr (.inl h))
  | 52 => .inl (g.2.2.2.2.1, 6, .inr (.inr (.inr (.inr (fun i => if i < 6 then some (g.2.1 (53 + i)) else none)))))
  | 53 => .inl (g.2.2.1, 3, .inl f)
  | 54 => .inl (g.2.2.1, 3, .inl f)
  | 55 => .inl (g.2.2.1, 3, .inl f)
  | 56 => .inl (g.2.2.1, 3, .inl f)
  | 57 => .inl (g.2.2.1, 3, .inl f)
  | 58 => .inl (g.2.2.1, 3, .inl f)
  | 59 => .inr (0, [.ref (g.2.1 60)])
  | 60 => .inl (g.2.2.1, 6, .inl f)
  | 61 => .inr (1, [.ref (g.2.1 62), .long (h 1)])
  | 62 => .inl (g.2.2.1, 6, .inl f)
  | 63 => .inr (1, [.ref (g.2.1 64), .long (h 1)])
  | 64 => .inl (g.2.2.1, 6, .inl f)
  | 65 => .inr (1, [.ref (g.2.1 66), .long (h 1)])
  | 66 => .inl (g.2.2.1, 6, .inl f)
  | 67 => .inr (5, [.ref (g.2.1 68), .int (f 1)])
  | 68 => .inl (g.2.2.1, 40, .inl f)
  | 69 => .inr (2, [.int (f 0), .int (f 1), .ref (g.2.1 70), .ref (g.2.1 71), .ref (g.2.1 72), .ref (g.2.1 73), .int (f 6)])
  | 70 => .inl (g.2.2.1, 6, .inl f)
  | 71 => .inl (g.2.2.1, 6, .inl f)
  | 72 => .inl (g.2.2.1, 6, .inl f)
  | 73 => .inl (g.2.2.1, 6, .inl f)
  | _ => .inr (0, [])
abbrev nwX : Nat := 74
theorem rowX_10 {g : Gx} : ∀ d, d < 7 → IsJ g (ceX g) (10 + d) 13
  | 0, _ => fun _ _ => rfl
  | 1, _ => fun _ _ => rfl
  | 2, _ => fun _ _ => rfl
  | 3, _ => fun _ _ => rfl
  | 4, _ => fun _ _ => rfl
  | 5, _ => fun _ _ => rfl
  | 6, _ => fun _ _ => rfl
  | n + 7, hn => absurd hn (by omega)
theorem rowX_18 {g : Gx} : ∀ d, d < 6 → IsI g (ceX g) (18 + d) 13
  | 0, _ => fun _ _ => rfl
  | 1, _ => fun _ _ => rfl
  | 2, _ => fun _ _ => rfl
  | 3, _ => fun _ _ => rfl
  | 4, _ => fun _ _ => rfl
  | 5, _ => fun _ _ => rfl
  | n + 6, hn => absurd hn (by omega)
theorem rowX_27 {g : Gx} : ∀ d, d < 7 → IsJ g (ceX g) (27 + d) 13
  | 0, _ => fun _ _ => rfl
  | 1, _ => fun _ _ => rfl
  | 2, _ => fun _ _ => rfl
  | 3, _ => fun _ _ => rfl
  | 4, _ => fun _ _ => rfl
  | 5, _ => fun _ _ => rfl
  | 6, _ => fun _ _ => rfl
  | n + 7, hn => absurd hn (by omega)
theorem rowX_35 {g : Gx} : ∀ d, d < 6 → IsI g (ceX g) (35 + d) 13
  | 0, _ => fun _ _ => rfl
  | 1, _ => fun _ _ => rfl
  | 2, _ => fun _ _ => rfl
  | 3, _ => fun _ _ => rfl
  | 4, _ => fun _ _ => rfl
  | 5, _ => fun _ _ => rfl
  | n + 6, hn => absurd hn (by omega)
theorem rowX_44 {g : Gx} : ∀ d, d < 7 → IsJ g (ceX g) (44 + d) 13
  | 0, _ => fun _ _ => rfl
  | 1, _ => fun _ _ => rfl
  | 2, _ => fun _ _ => rfl
  | 3, _ => fun _ _ => rfl
  | 4, _ => fun _ _ => rfl
  | 5, _ => fun _ _ => rfl
  | 6, _ => fun _ _ => rfl
  | n + 7, hn => absurd hn (by omega)
theorem rowX_53 {g : Gx} : ∀ d, d < 6 → IsI g (ceX g) (53 + d) 3
  | 0, _ => fun _ _ => rfl
  | 1, _ => fun _ _ => rfl
  | 2, _ => fun _ _ => rfl
  | 3, _ => fun _ _ => rfl
  | 4, _ => fun _ _ => rfl
  | 5, _ => fun _ _ => rfl
  | n + 6, hn => absurd hn (by omega)
/-- the cells of the world M by their places -/
def ceM (g : Gx) : Ce := fun k f h => match k with
  | 0 => .inr (8, [.int (f 0), .int (f 1), .int (f 2), .ref (g.2.1 1), .int (f 4), .ref (g.2.1 2), .ref (g.2.1 3), .ref (g.2.1 4), .ref (g.2.1 5), .int (f 9), .ref (g.2.1 6), .ref (g.2.1 7), .long (h 12), .ref (g.2.1 8), .ref (g.2.1 9), .ref (g.2.1 10), .ref (g.2.1 11), .ref (g.2.1 12), .ref (g.2.1 13), .ref (g.2.1 14), .int (f 20), .ref (g.2.1 15), .ref (g.2.1 16), .ref (g.2.1 17), .ref (g.2.1 18), .int (f 25), .int (f 26), .ref (g.2.1 19), .ref (g.2.1 20)])
  | 1 => .inl (g.2.2.1, 5, .inl f)
  | 2 => .inl (g.2.2.1, 3, .inl f)
  | 3 => .inl (g.2.2.1, 3, .inl f)
  | 4 => .inl (g.2.2.1, 3, .inl f)
  | 5 => .inl (g.2.2.1, 3, .inl f)
  | 6 => .inl (g.2.2.1, 6, .inl f)
  | 7 => .inl (g.2.2.2.1, 13, .inr (.inl h))
  | 8 => .inl (g.2.2.2.1, 91, .inr (.inl h))
  | 9 => .inl (g.2.2.1, 78, .inl f)
  | 10 => .inl (g.2.2.2.1, 13, .inr (.inl h))
  | 11 => .inl (g.2.2.1, 6, .inl f)
  | 12 => .inl (g.2.2.2.1, 13, .inr (.inl h))
  | 13 => .inl (g.2.2.1, 6, .inl f)
  | 14 => .inl (g.2.2.1, 40, .inl f)
  | 15 => .inl (g.2.2.1, 8, .inl f)
  | 16 => .inl (g.2.2.1, 8, .inl f)
  | 17 => .inl (g.2.2.1, 8, .inl f)
  | 18 => .inl (g.2.2.1, 8, .inl f)
  | 19 => .inl (g.2.2.2.1, 13, .inr (.inl h))
  | 20 => .inl (g.2.2.2.1, 13, .inr (.inl h))
  | _ => .inr (0, [])
abbrev nwM : Nat := 21
theorem inT_0 : ∀ w ∈ u_ws RX0 TX0 1, w ∈ TB := by decide +kernel
theorem inT_1 : ∀ w ∈ u_ws RX1 TX1 2, w ∈ TB := by decide +kernel
theorem inT_2 : ∀ w ∈ u_ws RX2 TX2 7, w ∈ TB := by decide +kernel
theorem inT_3 : ∀ w ∈ u_ws RX3 TX3 11, w ∈ TB := by decide +kernel
theorem inT_4 : ∀ w ∈ u_ws RX4 TX4 3, w ∈ TB := by decide +kernel
theorem inT_5 : ∀ w ∈ u_ws RX5 TX5 2, w ∈ TB := by decide +kernel
theorem inT_6 : ∀ w ∈ u_ws RX6 TX6 3, w ∈ TB := by decide +kernel
theorem inT_7 : ∀ w ∈ u_ws RX7 TX7 14, w ∈ TB := by decide +kernel
theorem inT_8 : ∀ w ∈ u_ws RX8 TX8 29, w ∈ TB := by decide +kernel
theorem cl_1_21 : Cpy RX1 21 := ⟨tb_in (n := 425) (by decide +kernel) rfl, tb_in (n := 314) (by decide +kernel) rfl, tb_in (n := 313) (by decide +kernel) rfl, tb_in (n := 10) (by decide +kernel) rfl⟩
theorem cl_2_43 : CalS RX2 43 yX5_isFact cX5_isFact 1 (some .boolean) 1 := ⟨⟨by decide +kernel, by decide +kernel, by decide +kernel⟩, tb_in (n := 493) (by decide +kernel) rfl, tb_in (n := 492) (by decide +kernel) rfl, tb_in (n := 7) (by decide +kernel) rfl, tb_in (n := 511) (by decide +kernel) rfl⟩
theorem cl_2_47 : CalV RX2 47 2 yX2_readInClause cX2_readInClause 3 none 2 := ⟨by decide +kernel, ⟨by decide +kernel, by decide +kernel, by decide +kernel⟩, tb_in (n := 515) (by decide +kernel) rfl, tb_in (n := 514) (by decide +kernel) rfl, tb_sel (n := 17) (by decide +kernel) rfl, tb_in (n := 8) (by decide +kernel) rfl, tb_in (n := 512) (by decide +kernel) rfl⟩
theorem cl_2_51 : CalS RX2 51 yX5_follow cX5_follow 2 (some .int) 2 := ⟨⟨by decide +kernel, by decide +kernel, by decide +kernel⟩, tb_in (n := 490) (by decide +kernel) rfl, tb_in (n := 489) (by decide +kernel) rfl, tb_in (n := 7) (by decide +kernel) rfl, tb_in (n := 517) (by decide +kernel) rfl⟩
theorem cl_2_55 : CalS RX2 55 yX5_isDigit cX5_isDigit 1 (some .boolean) 1 := ⟨⟨by decide +kernel, by decide +kernel, by decide +kernel⟩, tb_in (n := 502) (by decide +kernel) rfl, tb_in (n := 501) (by decide +kernel) rfl, tb_in (n := 7) (by decide +kernel) rfl, tb_in (n := 516) (by decide +kernel) rfl⟩
theorem cl_2_58 : CalV RX2 58 2 yX2_isSo cX2_isSo 3 (some .boolean) 2 := ⟨by decide +kernel, ⟨by decide +kernel, by decide +kernel, by decide +kernel⟩, tb_in (n := 533) (by decide +kernel) rfl, tb_in (n := 532) (by decide +kernel) rfl, tb_sel (n := 19) (by decide +kernel) rfl, tb_in (n := 8) (by decide +kernel) rfl, tb_in (n := 530) (by decide +kernel) rfl⟩
theorem cl_2_62 : CalMn RX2 62 := ⟨tb_in (n := 534) (by decide +kernel) rfl, tb_in (n := 535) (by decide +kernel) rfl, tb_in (n := 11) (by decide +kernel) rfl, tb_in (n := 536) (by decide +kernel) rfl⟩
theorem cl_3_46 : CalV RX3 46 3 yX3_isWaiting cX3_isWaiting 2 (some .boolean) 1 := ⟨by decide +kernel, ⟨by decide +kernel, by decide +kernel, by decide +kernel⟩, tb_in (n := 271) (by decide +kernel) rfl, tb_in (n := 269) (by decide +kernel) rfl, tb_in (n := 270) (by decide +kernel) rfl, tb_in (n := 2) (by decide +kernel) rfl, tb_in (n := 268) (by decide +kernel) rfl⟩
theorem cl_3_50 : CalV RX3 50 3 yX3_worthOn cX3_worthOn 4 (some .int) 2 := ⟨by decide +kernel, ⟨by decide +kernel, by decide +kernel, by decide +kernel⟩, tb_in (n := 279) (by decide +kernel) rfl, tb_in (n := 277) (by decide +kernel) rfl, tb_in (n := 278) (by decide +kernel) rfl, tb_in (n := 2) (by decide +kernel) rfl, tb_in (n := 319) (by decide +kernel) rfl⟩
theorem cl_4_25 : CalV RX4 25 2 yX2_numberFor cX2_numberFor 6 (some .int) 3 := ⟨by decide +kernel, ⟨by decide +kernel, by decide +kernel, by decide +kernel⟩, tb_in (n := 529) (by decide +kernel) rfl, tb_in (n := 527) (by decide +kernel) rfl, tb_in (n := 528) (by decide +kernel) rfl, tb_in (n := 8) (by decide +kernel) rfl, tb_in (n := 549) (by decide +kernel) rfl⟩
theorem cl_4_31 : CalV RX4 31 4 yX4_fillEnd cX4_fillEnd 3 none 1 := ⟨by decide +kernel, ⟨by decide +kernel, by decide +kernel, by decide +kernel⟩, tb_in (n := 359) (by decide +kernel) rfl, tb_in (n := 358) (by decide +kernel) rfl, tb_sel (n := 6) (by decide +kernel) rfl, tb_in (n := 3) (by decide +kernel) rfl, tb_in (n := 356) (by decide +kernel) rfl⟩
theorem cl_4_44 : CalV RX4 44 4 yX4_rowFor cX4_rowFor 7 none 3 := ⟨by decide +kernel, ⟨by decide +kernel, by decide +kernel, by decide +kernel⟩, tb_in (n := 363) (by decide +kernel) rfl, tb_in (n := 362) (by decide +kernel) rfl, tb_sel (n := 7) (by decide +kernel) rfl, tb_in (n := 3) (by decide +kernel) rfl, tb_in (n := 360) (by decide +kernel) rfl⟩
theorem cl_4_48 : CalV RX4 48 4 yX4_takeAsked cX4_takeAsked 4 none 2 := ⟨by decide +kernel, ⟨by decide +kernel, by decide +kernel, by decide +kernel⟩, tb_in (n := 461) (by decide +kernel) rfl, tb_in (n := 460) (by decide +kernel) rfl, tb_sel (n := 16) (by decide +kernel) rfl, tb_in (n := 3) (by decide +kernel) rfl, tb_in (n := 458) (by decide +kernel) rfl⟩
theorem cl_4_52 : CalV RX4 52 4 yX4_takeGreater cX4_takeGreater 4 none 2 := ⟨by decide +kernel, ⟨by decide +kernel, by decide +kernel, by decide +kernel⟩, tb_in (n := 375) (by decide +kernel) rfl, tb_in (n := 374) (by decide +kernel) rfl, tb_sel (n := 9) (by decide +kernel) rfl, tb_in (n := 3) (by decide +kernel) rfl, tb_in (n := 372) (by decide +kernel) rfl⟩
theorem cl_4_58 : Cpy RX4 58 := ⟨tb_in (n := 364) (by decide +kernel) rfl, tb_in (n := 314) (by decide +kernel) rfl, tb_in (n := 313) (by decide +kernel) rfl, tb_in (n := 10) (by decide +kernel) rfl⟩
theorem cl_4_64 : CalV RX4 64 3 yX3_scale cX3_scale 2 (some .long) 1 := ⟨by decide +kernel, ⟨by decide +kernel, by decide +kernel, by decide +kernel⟩, tb_in (n := 332) (by decide +kernel) rfl, tb_in (n := 330) (by decide +kernel) rfl, tb_in (n := 331) (by decide +kernel) rfl, tb_in (n := 2) (by decide +kernel) rfl, tb_in (n := 365) (by decide +kernel) rfl⟩
theorem cl_4_71 : CalV RX4 71 3 yX3_chanceToBuy cX3_chanceToBuy 4 (some .int) 3 := ⟨by decide +kernel, ⟨by decide +kernel, by decide +kernel, by decide +kernel⟩, tb_in (n := 318) (by decide +kernel) rfl, tb_in (n := 316) (by decide +kernel) rfl, tb_in (n := 317) (by decide +kernel) rfl, tb_in (n := 2) (by decide +kernel) rfl, tb_in (n := 366) (by decide +kernel) rfl⟩
theorem cl_4_78 : CalV RX4 78 4 yX4_backByBuyer cX4_backByBuyer 5 none 2 := ⟨by decide +kernel, ⟨by decide +kernel, by decide +kernel, by decide +kernel⟩, tb_in (n := 370) (by decide +kernel) rfl, tb_in (n := 369) (by decide +kernel) rfl, tb_sel (n := 8) (by decide +kernel) rfl, tb_in (n := 3) (by decide +kernel) rfl, tb_in (n := 367) (by decide +kernel) rfl⟩
theorem cl_5_19 : CalS RX5 19 yX5_follow cX5_follow 2 (some .int) 2 := ⟨⟨by decide +kernel, by decide +kernel, by decide +kernel⟩, tb_in (n := 490) (by decide +kernel) rfl, tb_in (n := 489) (by decide +kernel) rfl, tb_in (n := 7) (by decide +kernel) rfl, tb_in (n := 488) (by decide +kernel) rfl⟩
theorem cl_5_23 : CalS RX5 23 yX5_isFact cX5_isFact 1 (some .boolean) 1 := ⟨⟨by decide +kernel, by decide +kernel, by decide +kernel⟩, tb_in (n := 493) (by decide +kernel) rfl, tb_in (n := 492) (by decide +kernel) rfl, tb_in (n := 7) (by decide +kernel) rfl, tb_in (n := 491) (by decide +kernel) rfl⟩
theorem cl_5_27 : CalS RX5 27 yX5_isPriceDigit cX5_isPriceDigit 1 (some .boolean) 1 := ⟨⟨by decide +kernel, by decide +kernel, by decide +kernel⟩, tb_in (n := 496) (by decide +kernel) rfl, tb_in (n := 495) (by decide +kernel) rfl, tb_in (n := 7) (by decide +kernel) rfl, tb_in (n := 494) (by decide +kernel) rfl⟩
theorem cl_5_30 : CalS RX5 30 yX5_isCompare cX5_isCompare 1 (some .boolean) 1 := ⟨⟨by decide +kernel, by decide +kernel, by decide +kernel⟩, tb_in (n := 499) (by decide +kernel) rfl, tb_in (n := 498) (by decide +kernel) rfl, tb_in (n := 7) (by decide +kernel) rfl, tb_in (n := 497) (by decide +kernel) rfl⟩
theorem cl_5_33 : CalS RX5 33 yX5_isDigit cX5_isDigit 1 (some .boolean) 1 := ⟨⟨by decide +kernel, by decide +kernel, by decide +kernel⟩, tb_in (n := 502) (by decide +kernel) rfl, tb_in (n := 501) (by decide +kernel) rfl, tb_in (n := 7) (by decide +kernel) rfl, tb_in (n := 500) (by decide +kernel) rfl⟩
theorem cl_6_25 : CalV RX6 25 6 yX6_begin cX6_begin 3 none 1 := ⟨by decide +kernel, ⟨by decide +kernel, by decide +kernel, by decide +kernel⟩, tb_in (n := 307) (by decide +kernel) rfl, tb_in (n := 306) (by decide +kernel) rfl, tb_sel (n := 1) (by decide +kernel) rfl, tb_in (n := 4) (by decide +kernel) rfl, tb_in (n := 304) (by decide +kernel) rfl⟩
theorem cl_6_35 : CalV RX6 35 6 yX6_openDay cX6_openDay 2 none 1 := ⟨by decide +kernel, ⟨by decide +kernel, by decide +kernel, by decide +kernel⟩, tb_in (n := 311) (by decide +kernel) rfl, tb_in (n := 310) (by decide +kernel) rfl, tb_sel (n := 2) (by decide +kernel) rfl, tb_in (n := 4) (by decide +kernel) rfl, tb_in (n := 308) (by decide +kernel) rfl⟩
theorem cl_6_42 : CalV RX6 42 3 yX3_chanceToBuy cX3_chanceToBuy 4 (some .int) 3 := ⟨by decide +kernel, ⟨by decide +kernel, by decide +kernel, by decide +kernel⟩, tb_in (n := 318) (by decide +kernel) rfl, tb_in (n := 316) (by decide +kernel) rfl, tb_in (n := 317) (by decide +kernel) rfl, tb_in (n := 2) (by decide +kernel) rfl, tb_in (n := 315) (by decide +kernel) rfl⟩
theorem cl_6_50 : CalV RX6 50 6 yX6_passBuyer cX6_passBuyer 10 none 3 := ⟨by decide +kernel, ⟨by decide +kernel, by decide +kernel, by decide +kernel⟩, tb_in (n := 323) (by decide +kernel) rfl, tb_in (n := 322) (by decide +kernel) rfl, tb_sel (n := 3) (by decide +kernel) rfl, tb_in (n := 4) (by decide +kernel) rfl, tb_in (n := 320) (by decide +kernel) rfl⟩
theorem cl_6_54 : CalV RX6 54 6 yX6_pickAll cX6_pickAll 5 none 2 := ⟨by decide +kernel, ⟨by decide +kernel, by decide +kernel, by decide +kernel⟩, tb_in (n := 411) (by decide +kernel) rfl, tb_in (n := 410) (by decide +kernel) rfl, tb_sel (n := 12) (by decide +kernel) rfl, tb_in (n := 4) (by decide +kernel) rfl, tb_in (n := 408) (by decide +kernel) rfl⟩
theorem cl_6_58 : CalV RX6 58 6 yX6_passThoseOf cX6_passThoseOf 6 none 4 := ⟨by decide +kernel, ⟨by decide +kernel, by decide +kernel, by decide +kernel⟩, tb_in (n := 420) (by decide +kernel) rfl, tb_in (n := 419) (by decide +kernel) rfl, tb_sel (n := 13) (by decide +kernel) rfl, tb_in (n := 4) (by decide +kernel) rfl, tb_in (n := 417) (by decide +kernel) rfl⟩
theorem cl_6_68 : Cpy RX6 68 := ⟨tb_in (n := 312) (by decide +kernel) rfl, tb_in (n := 314) (by decide +kernel) rfl, tb_in (n := 313) (by decide +kernel) rfl, tb_in (n := 10) (by decide +kernel) rfl⟩
theorem cl_6_74 : CalV RX6 74 3 yX3_isWaiting cX3_isWaiting 2 (some .boolean) 1 := ⟨by decide +kernel, ⟨by decide +kernel, by decide +kernel, by decide +kernel⟩, tb_in (n := 271) (by decide +kernel) rfl, tb_in (n := 269) (by decide +kernel) rfl, tb_in (n := 270) (by decide +kernel) rfl, tb_in (n := 2) (by decide +kernel) rfl, tb_in (n := 412) (by decide +kernel) rfl⟩
theorem cl_6_78 : CalV RX6 78 3 yX3_dayPicked cX3_dayPicked 8 (some .int) 3 := ⟨by decide +kernel, ⟨by decide +kernel, by decide +kernel, by decide +kernel⟩, tb_in (n := 416) (by decide +kernel) rfl, tb_in (n := 414) (by decide +kernel) rfl, tb_in (n := 415) (by decide +kernel) rfl, tb_in (n := 2) (by decide +kernel) rfl, tb_in (n := 413) (by decide +kernel) rfl⟩
theorem cl_7_118 : CalV RX7 118 3 yX3_isSort cX3_isSort 2 (some .boolean) 1 := ⟨by decide +kernel, ⟨by decide +kernel, by decide +kernel, by decide +kernel⟩, tb_in (n := 263) (by decide +kernel) rfl, tb_in (n := 261) (by decide +kernel) rfl, tb_in (n := 262) (by decide +kernel) rfl, tb_in (n := 2) (by decide +kernel) rfl, tb_in (n := 260) (by decide +kernel) rfl⟩
theorem cl_7_122 : CalV RX7 122 3 yX3_waitTold cX3_waitTold 2 (some .int) 1 := ⟨by decide +kernel, ⟨by decide +kernel, by decide +kernel, by decide +kernel⟩, tb_in (n := 267) (by decide +kernel) rfl, tb_in (n := 265) (by decide +kernel) rfl, tb_in (n := 266) (by decide +kernel) rfl, tb_in (n := 2) (by decide +kernel) rfl, tb_in (n := 264) (by decide +kernel) rfl⟩
theorem cl_7_126 : CalV RX7 126 3 yX3_worthOn cX3_worthOn 4 (some .int) 2 := ⟨by decide +kernel, ⟨by decide +kernel, by decide +kernel, by decide +kernel⟩, tb_in (n := 279) (by decide +kernel) rfl, tb_in (n := 277) (by decide +kernel) rfl, tb_in (n := 278) (by decide +kernel) rfl, tb_in (n := 2) (by decide +kernel) rfl, tb_in (n := 276) (by decide +kernel) rfl⟩
theorem cl_7_130 : CalV RX7 130 3 yX3_isPrice cX3_isPrice 2 (some .boolean) 1 := ⟨by decide +kernel, ⟨by decide +kernel, by decide +kernel, by decide +kernel⟩, tb_in (n := 287) (by decide +kernel) rfl, tb_in (n := 285) (by decide +kernel) rfl, tb_in (n := 286) (by decide +kernel) rfl, tb_in (n := 2) (by decide +kernel) rfl, tb_in (n := 284) (by decide +kernel) rfl⟩
theorem cl_7_133 : CalS RX7 133 yX7_isPart cX7_isPart 1 (some .boolean) 1 := ⟨⟨by decide +kernel, by decide +kernel, by decide +kernel⟩, tb_in (n := 294) (by decide +kernel) rfl, tb_in (n := 293) (by decide +kernel) rfl, tb_in (n := 1) (by decide +kernel) rfl, tb_in (n := 292) (by decide +kernel) rfl⟩
theorem cl_7_136 : CalV RX7 136 7 yX7_refusalOf cX7_refusalOf 2 (some .int) 1 := ⟨by decide +kernel, ⟨by decide +kernel, by decide +kernel, by decide +kernel⟩, tb_in (n := 298) (by decide +kernel) rfl, tb_in (n := 297) (by decide +kernel) rfl, tb_sel (n := 0) (by decide +kernel) rfl, tb_in (n := 1) (by decide +kernel) rfl, tb_in (n := 295) (by decide +kernel) rfl⟩
theorem cl_7_142 : CalV RX7 142 6 yX6_goByPlan cX6_goByPlan 6 none 3 := ⟨by decide +kernel, ⟨by decide +kernel, by decide +kernel, by decide +kernel⟩, tb_in (n := 303) (by decide +kernel) rfl, tb_in (n := 301) (by decide +kernel) rfl, tb_in (n := 302) (by decide +kernel) rfl, tb_in (n := 4) (by decide +kernel) rfl, tb_in (n := 300) (by decide +kernel) rfl⟩
theorem cl_7_146 : CalV RX7 146 6 yX6_mean cX6_mean 5 (some .long) 1 := ⟨by decide +kernel, ⟨by decide +kernel, by decide +kernel, by decide +kernel⟩, tb_in (n := 328) (by decide +kernel) rfl, tb_in (n := 326) (by decide +kernel) rfl, tb_in (n := 327) (by decide +kernel) rfl, tb_in (n := 4) (by decide +kernel) rfl, tb_in (n := 325) (by decide +kernel) rfl⟩
theorem cl_7_150 : CalV RX7 150 3 yX3_scale cX3_scale 2 (some .long) 1 := ⟨by decide +kernel, ⟨by decide +kernel, by decide +kernel, by decide +kernel⟩, tb_in (n := 332) (by decide +kernel) rfl, tb_in (n := 330) (by decide +kernel) rfl, tb_in (n := 331) (by decide +kernel) rfl, tb_in (n := 2) (by decide +kernel) rfl, tb_in (n := 329) (by decide +kernel) rfl⟩
theorem cl_7_154 : CalS RX7 154 yX7_partOf cX7_partOf 10 (some .long) 3 := ⟨⟨by decide +kernel, by decide +kernel, by decide +kernel⟩, tb_in (n := 335) (by decide +kernel) rfl, tb_in (n := 334) (by decide +kernel) rfl, tb_in (n := 1) (by decide +kernel) rfl, tb_in (n := 333) (by decide +kernel) rfl⟩
theorem cl_7_162 : CalV RX7 162 7 yX7_isDay cX7_isDay 2 (some .boolean) 1 := ⟨by decide +kernel, ⟨by decide +kernel, by decide +kernel, by decide +kernel⟩, tb_in (n := 347) (by decide +kernel) rfl, tb_in (n := 346) (by decide +kernel) rfl, tb_sel (n := 4) (by decide +kernel) rfl, tb_in (n := 1) (by decide +kernel) rfl, tb_in (n := 344) (by decide +kernel) rfl⟩
theorem cl_7_165 : CalV RX7 165 7 yX7_findBest cX7_findBest 1 none 0 := ⟨by decide +kernel, ⟨by decide +kernel, by decide +kernel, by decide +kernel⟩, tb_in (n := 351) (by decide +kernel) rfl, tb_in (n := 350) (by decide +kernel) rfl, tb_sel (n := 5) (by decide +kernel) rfl, tb_in (n := 1) (by decide +kernel) rfl, tb_in (n := 348) (by decide +kernel) rfl⟩
theorem cl_7_175 : CalV RX7 175 7 yX7_promised cX7_promised 2 (some (.object "SaturdaySale$Greatest")) 1 := ⟨by decide +kernel, ⟨by decide +kernel, by decide +kernel, by decide +kernel⟩, tb_in (n := 391) (by decide +kernel) rfl, tb_in (n := 390) (by decide +kernel) rfl, tb_sel (n := 10) (by decide +kernel) rfl, tb_in (n := 1) (by decide +kernel) rfl, tb_in (n := 388) (by decide +kernel) rfl⟩
theorem cl_7_182 : CalV RX7 182 7 yX7_promiseMean cX7_promiseMean 2 (some .long) 1 := ⟨by decide +kernel, ⟨by decide +kernel, by decide +kernel, by decide +kernel⟩, tb_in (n := 445) (by decide +kernel) rfl, tb_in (n := 444) (by decide +kernel) rfl, tb_sel (n := 15) (by decide +kernel) rfl, tb_in (n := 1) (by decide +kernel) rfl, tb_in (n := 442) (by decide +kernel) rfl⟩
theorem cl_7_185 : CalV RX7 185 7 yX7_findKept cX7_findKept 5 none 0 := ⟨by decide +kernel, ⟨by decide +kernel, by decide +kernel, by decide +kernel⟩, tb_in (n := 433) (by decide +kernel) rfl, tb_in (n := 432) (by decide +kernel) rfl, tb_sel (n := 14) (by decide +kernel) rfl, tb_in (n := 1) (by decide +kernel) rfl, tb_in (n := 430) (by decide +kernel) rfl⟩
theorem cl_7_188 : CalV RX7 188 4 yX4_askByPlan cX4_askByPlan 4 none 1 := ⟨by decide +kernel, ⟨by decide +kernel, by decide +kernel, by decide +kernel⟩, tb_in (n := 453) (by decide +kernel) rfl, tb_in (n := 451) (by decide +kernel) rfl, tb_in (n := 452) (by decide +kernel) rfl, tb_in (n := 3) (by decide +kernel) rfl, tb_in (n := 450) (by decide +kernel) rfl⟩
theorem cl_7_192 : CalV RX7 192 4 yX4_fillAsked cX4_fillAsked 4 none 1 := ⟨by decide +kernel, ⟨by decide +kernel, by decide +kernel, by decide +kernel⟩, tb_in (n := 457) (by decide +kernel) rfl, tb_in (n := 455) (by decide +kernel) rfl, tb_in (n := 456) (by decide +kernel) rfl, tb_in (n := 3) (by decide +kernel) rfl, tb_in (n := 454) (by decide +kernel) rfl⟩
theorem cl_7_196 : CalV RX7 196 3 yX3_isWaiting cX3_isWaiting 2 (some .boolean) 1 := ⟨by decide +kernel, ⟨by decide +kernel, by decide +kernel, by decide +kernel⟩, tb_in (n := 271) (by decide +kernel) rfl, tb_in (n := 269) (by decide +kernel) rfl, tb_in (n := 270) (by decide +kernel) rfl, tb_in (n := 2) (by decide +kernel) rfl, tb_in (n := 466) (by decide +kernel) rfl⟩
theorem cl_7_199 : CalV RX7 199 3 yX3_dayPicked cX3_dayPicked 8 (some .int) 3 := ⟨by decide +kernel, ⟨by decide +kernel, by decide +kernel, by decide +kernel⟩, tb_in (n := 416) (by decide +kernel) rfl, tb_in (n := 414) (by decide +kernel) rfl, tb_in (n := 415) (by decide +kernel) rfl, tb_in (n := 2) (by decide +kernel) rfl, tb_in (n := 467) (by decide +kernel) rfl⟩
theorem cl_7_209 : CalV RX7 209 5 yX5_faultPlace cX5_faultPlace 3 (some .int) 0 := ⟨by decide +kernel, ⟨by decide +kernel, by decide +kernel, by decide +kernel⟩, tb_in (n := 487) (by decide +kernel) rfl, tb_in (n := 485) (by decide +kernel) rfl, tb_in (n := 486) (by decide +kernel) rfl, tb_in (n := 7) (by decide +kernel) rfl, tb_in (n := 484) (by decide +kernel) rfl⟩
theorem cl_7_213 : CalV RX7 213 2 yX2_read cX2_read 5 none 1 := ⟨by decide +kernel, ⟨by decide +kernel, by decide +kernel, by decide +kernel⟩, tb_in (n := 510) (by decide +kernel) rfl, tb_in (n := 508) (by decide +kernel) rfl, tb_in (n := 509) (by decide +kernel) rfl, tb_in (n := 8) (by decide +kernel) rfl, tb_in (n := 507) (by decide +kernel) rfl⟩
theorem cl_7_220 : CalV RX7 220 7 yX7_ruleRefusalOf cX7_ruleRefusalOf 3 (some .int) 1 := ⟨by decide +kernel, ⟨by decide +kernel, by decide +kernel, by decide +kernel⟩, tb_in (n := 525) (by decide +kernel) rfl, tb_in (n := 524) (by decide +kernel) rfl, tb_sel (n := 18) (by decide +kernel) rfl, tb_in (n := 1) (by decide +kernel) rfl, tb_in (n := 522) (by decide +kernel) rfl⟩
theorem cl_7_223 : CalV RX7 223 2 yX2_numberFor cX2_numberFor 6 (some .int) 3 := ⟨by decide +kernel, ⟨by decide +kernel, by decide +kernel, by decide +kernel⟩, tb_in (n := 529) (by decide +kernel) rfl, tb_in (n := 527) (by decide +kernel) rfl, tb_in (n := 528) (by decide +kernel) rfl, tb_in (n := 8) (by decide +kernel) rfl, tb_in (n := 526) (by decide +kernel) rfl⟩
theorem cl_7_227 : CalV RX7 227 7 yX7_findBoy cX7_findBoy 1 none 0 := ⟨by decide +kernel, ⟨by decide +kernel, by decide +kernel, by decide +kernel⟩, tb_in (n := 544) (by decide +kernel) rfl, tb_in (n := 543) (by decide +kernel) rfl, tb_sel (n := 20) (by decide +kernel) rfl, tb_in (n := 1) (by decide +kernel) rfl, tb_in (n := 541) (by decide +kernel) rfl⟩
theorem cl_7_230 : CalV RX7 230 7 yX7_isOtherWith cX7_isOtherWith 4 (some .boolean) 2 := ⟨by decide +kernel, ⟨by decide +kernel, by decide +kernel, by decide +kernel⟩, tb_in (n := 561) (by decide +kernel) rfl, tb_in (n := 560) (by decide +kernel) rfl, tb_sel (n := 21) (by decide +kernel) rfl, tb_in (n := 1) (by decide +kernel) rfl, tb_in (n := 558) (by decide +kernel) rfl⟩
theorem cl_7_238 : CalV RX7 238 4 yX4_fillBest cX4_fillBest 4 none 1 := ⟨by decide +kernel, ⟨by decide +kernel, by decide +kernel, by decide +kernel⟩, tb_in (n := 355) (by decide +kernel) rfl, tb_in (n := 353) (by decide +kernel) rfl, tb_in (n := 354) (by decide +kernel) rfl, tb_in (n := 3) (by decide +kernel) rfl, tb_in (n := 352) (by decide +kernel) rfl⟩
theorem cl_7_241 : CalV RX7 241 1 yX1_clear cX1_clear 1 none 0 := ⟨by decide +kernel, ⟨by decide +kernel, by decide +kernel, by decide +kernel⟩, tb_in (n := 399) (by decide +kernel) rfl, tb_in (n := 397) (by decide +kernel) rfl, tb_in (n := 398) (by decide +kernel) rfl, tb_in (n := 6) (by decide +kernel) rfl, tb_in (n := 396) (by decide +kernel) rfl⟩
theorem cl_7_244 : CalV RX7 244 0 yX0_begin cX0_begin 2 (some .int) 0 := ⟨by decide +kernel, ⟨by decide +kernel, by decide +kernel, by decide +kernel⟩, tb_in (n := 403) (by decide +kernel) rfl, tb_in (n := 401) (by decide +kernel) rfl, tb_in (n := 402) (by decide +kernel) rfl, tb_in (n := 5) (by decide +kernel) rfl, tb_in (n := 400) (by decide +kernel) rfl⟩
theorem cl_7_248 : CalV RX7 248 1 yX1_offer cX1_offer 4 none 2 := ⟨by decide +kernel, ⟨by decide +kernel, by decide +kernel, by decide +kernel⟩, tb_in (n := 424) (by decide +kernel) rfl, tb_in (n := 422) (by decide +kernel) rfl, tb_in (n := 423) (by decide +kernel) rfl, tb_in (n := 6) (by decide +kernel) rfl, tb_in (n := 421) (by decide +kernel) rfl⟩
theorem cl_7_252 : CalV RX7 252 0 yX0_marksDown cX0_marksDown 4 (some .int) 1 := ⟨by decide +kernel, ⟨by decide +kernel, by decide +kernel, by decide +kernel⟩, tb_in (n := 437) (by decide +kernel) rfl, tb_in (n := 435) (by decide +kernel) rfl, tb_in (n := 436) (by decide +kernel) rfl, tb_in (n := 5) (by decide +kernel) rfl, tb_in (n := 434) (by decide +kernel) rfl⟩
theorem cl_7_255 : CalV RX7 255 0 yX0_advance cX0_advance 6 (some .int) 2 := ⟨by decide +kernel, ⟨by decide +kernel, by decide +kernel, by decide +kernel⟩, tb_in (n := 429) (by decide +kernel) rfl, tb_in (n := 427) (by decide +kernel) rfl, tb_in (n := 428) (by decide +kernel) rfl, tb_in (n := 5) (by decide +kernel) rfl, tb_in (n := 426) (by decide +kernel) rfl⟩
theorem cl_7_258 : CalV RX7 258 6 yX6_goWaiting cX6_goWaiting 5 none 2 := ⟨by decide +kernel, ⟨by decide +kernel, by decide +kernel, by decide +kernel⟩, tb_in (n := 407) (by decide +kernel) rfl, tb_in (n := 405) (by decide +kernel) rfl, tb_in (n := 406) (by decide +kernel) rfl, tb_in (n := 4) (by decide +kernel) rfl, tb_in (n := 404) (by decide +kernel) rfl⟩
theorem cl_7_262 : CalV RX7 262 4 yX4_askByRule cX4_askByRule 5 none 2 := ⟨by decide +kernel, ⟨by decide +kernel, by decide +kernel, by decide +kernel⟩, tb_in (n := 548) (by decide +kernel) rfl, tb_in (n := 546) (by decide +kernel) rfl, tb_in (n := 547) (by decide +kernel) rfl, tb_in (n := 3) (by decide +kernel) rfl, tb_in (n := 545) (by decide +kernel) rfl⟩
theorem cl_7_266 : CalV RX7 266 7 yX7_findMet cX7_findMet 3 none 0 := ⟨by decide +kernel, ⟨by decide +kernel, by decide +kernel, by decide +kernel⟩, tb_in (n := 395) (by decide +kernel) rfl, tb_in (n := 394) (by decide +kernel) rfl, tb_sel (n := 11) (by decide +kernel) rfl, tb_in (n := 1) (by decide +kernel) rfl, tb_in (n := 392) (by decide +kernel) rfl⟩
theorem cl_7_81 : CalS RX7 81 yX7_isWithin cX7_isWithin 3 (some .boolean) 3 := ⟨⟨by decide +kernel, by decide +kernel, by decide +kernel⟩, tb_in (n := 247) (by decide +kernel) rfl, tb_in (n := 246) (by decide +kernel) rfl, tb_in (n := 1) (by decide +kernel) rfl, tb_in (n := 245) (by decide +kernel) rfl⟩
theorem cl_8_106 : CalV RX8 106 8 yX8_isSort cX8_isSort 2 (some .boolean) 1 := ⟨by decide +kernel, ⟨by decide +kernel, by decide +kernel, by decide +kernel⟩, tb_in (n := 688) (by decide +kernel) rfl, tb_in (n := 687) (by decide +kernel) rfl, tb_sel (n := 22) (by decide +kernel) rfl, tb_in (n := 9) (by decide +kernel) rfl, tb_in (n := 685) (by decide +kernel) rfl⟩
theorem cl_8_116 : CalV RX8 116 8 yX8_worthOf cX8_worthOf 4 (some .int) 2 := ⟨by decide +kernel, ⟨by decide +kernel, by decide +kernel, by decide +kernel⟩, tb_in (n := 699) (by decide +kernel) rfl, tb_in (n := 698) (by decide +kernel) rfl, tb_sel (n := 23) (by decide +kernel) rfl, tb_in (n := 9) (by decide +kernel) rfl, tb_in (n := 696) (by decide +kernel) rfl⟩
theorem cl_8_124 : CalV RX8 124 8 yX8_buyer cX8_buyer 5 none 2 := ⟨by decide +kernel, ⟨by decide +kernel, by decide +kernel, by decide +kernel⟩, tb_in (n := 732) (by decide +kernel) rfl, tb_in (n := 731) (by decide +kernel) rfl, tb_sel (n := 28) (by decide +kernel) rfl, tb_in (n := 9) (by decide +kernel) rfl, tb_in (n := 729) (by decide +kernel) rfl⟩
theorem cl_8_128 : CalV RX8 128 8 yX8_beginEnd cX8_beginEnd 2 none 0 := ⟨by decide +kernel, ⟨by decide +kernel, by decide +kernel, by decide +kernel⟩, tb_in (n := 724) (by decide +kernel) rfl, tb_in (n := 723) (by decide +kernel) rfl, tb_sel (n := 26) (by decide +kernel) rfl, tb_in (n := 9) (by decide +kernel) rfl, tb_in (n := 721) (by decide +kernel) rfl⟩
theorem cl_8_131 : CalV RX8 131 8 yX8_keepRow cX8_keepRow 3 none 1 := ⟨by decide +kernel, ⟨by decide +kernel, by decide +kernel, by decide +kernel⟩, tb_in (n := 755) (by decide +kernel) rfl, tb_in (n := 754) (by decide +kernel) rfl, tb_sel (n := 31) (by decide +kernel) rfl, tb_in (n := 9) (by decide +kernel) rfl, tb_in (n := 752) (by decide +kernel) rfl⟩
theorem cl_8_135 : CalV RX8 135 8 yX8_dayAt cX8_dayAt 4 none 2 := ⟨by decide +kernel, ⟨by decide +kernel, by decide +kernel, by decide +kernel⟩, tb_in (n := 728) (by decide +kernel) rfl, tb_in (n := 727) (by decide +kernel) rfl, tb_sel (n := 27) (by decide +kernel) rfl, tb_in (n := 9) (by decide +kernel) rfl, tb_in (n := 725) (by decide +kernel) rfl⟩
theorem cl_8_138 : CalS RX8 138 yX8_isPart cX8_isPart 1 (some .boolean) 1 := ⟨⟨by decide +kernel, by decide +kernel, by decide +kernel⟩, tb_in (n := 710) (by decide +kernel) rfl, tb_in (n := 709) (by decide +kernel) rfl, tb_in (n := 9) (by decide +kernel) rfl, tb_in (n := 708) (by decide +kernel) rfl⟩
theorem cl_8_145 : CalV RX8 145 8 yX8_layPlan cX8_layPlan 2 none 0 := ⟨by decide +kernel, ⟨by decide +kernel, by decide +kernel, by decide +kernel⟩, tb_in (n := 716) (by decide +kernel) rfl, tb_in (n := 715) (by decide +kernel) rfl, tb_sel (n := 24) (by decide +kernel) rfl, tb_in (n := 9) (by decide +kernel) rfl, tb_in (n := 713) (by decide +kernel) rfl⟩
theorem cl_8_148 : CalV RX8 148 8 yX8_bringFrom cX8_bringFrom 3 none 1 := ⟨by decide +kernel, ⟨by decide +kernel, by decide +kernel, by decide +kernel⟩, tb_in (n := 720) (by decide +kernel) rfl, tb_in (n := 719) (by decide +kernel) rfl, tb_sel (n := 25) (by decide +kernel) rfl, tb_in (n := 9) (by decide +kernel) rfl, tb_in (n := 717) (by decide +kernel) rfl⟩
theorem cl_8_151 : CalS RX8 151 yX8_lowest cX8_lowest 11 (some .long) 3 := ⟨⟨by decide +kernel, by decide +kernel, by decide +kernel⟩, tb_in (n := 735) (by decide +kernel) rfl, tb_in (n := 734) (by decide +kernel) rfl, tb_in (n := 9) (by decide +kernel) rfl, tb_in (n := 733) (by decide +kernel) rfl⟩
theorem cl_8_155 : CalV RX8 155 8 yX8_findOdds cX8_findOdds 8 none 1 := ⟨by decide +kernel, ⟨by decide +kernel, by decide +kernel, by decide +kernel⟩, tb_in (n := 743) (by decide +kernel) rfl, tb_in (n := 742) (by decide +kernel) rfl, tb_sel (n := 29) (by decide +kernel) rfl, tb_in (n := 9) (by decide +kernel) rfl, tb_in (n := 740) (by decide +kernel) rfl⟩
theorem cl_8_158 : CalV RX8 158 8 yX8_findBest cX8_findBest 6 none 0 := ⟨by decide +kernel, ⟨by decide +kernel, by decide +kernel, by decide +kernel⟩, tb_in (n := 751) (by decide +kernel) rfl, tb_in (n := 750) (by decide +kernel) rfl, tb_sel (n := 30) (by decide +kernel) rfl, tb_in (n := 9) (by decide +kernel) rfl, tb_in (n := 748) (by decide +kernel) rfl⟩
theorem cl_8_161 : CalS RX8 161 yX8_power cX8_power 1 (some .long) 1 := ⟨⟨by decide +kernel, by decide +kernel, by decide +kernel⟩, tb_in (n := 762) (by decide +kernel) rfl, tb_in (n := 761) (by decide +kernel) rfl, tb_in (n := 9) (by decide +kernel) rfl, tb_in (n := 760) (by decide +kernel) rfl⟩
theorem cl_8_165 : CalV RX8 165 8 yX8_pickOf cX8_pickOf 7 (some .int) 2 := ⟨by decide +kernel, ⟨by decide +kernel, by decide +kernel, by decide +kernel⟩, tb_in (n := 786) (by decide +kernel) rfl, tb_in (n := 785) (by decide +kernel) rfl, tb_sel (n := 35) (by decide +kernel) rfl, tb_in (n := 9) (by decide +kernel) rfl, tb_in (n := 783) (by decide +kernel) rfl⟩
theorem cl_8_168 : CalV RX8 168 8 yX8_isOnce cX8_isOnce 3 (some .boolean) 0 := ⟨by decide +kernel, ⟨by decide +kernel, by decide +kernel, by decide +kernel⟩, tb_in (n := 778) (by decide +kernel) rfl, tb_in (n := 777) (by decide +kernel) rfl, tb_sel (n := 33) (by decide +kernel) rfl, tb_in (n := 9) (by decide +kernel) rfl, tb_in (n := 775) (by decide +kernel) rfl⟩
theorem cl_8_172 : CalV RX8 172 8 yX8_meet cX8_meet 7 none 0 := ⟨by decide +kernel, ⟨by decide +kernel, by decide +kernel, by decide +kernel⟩, tb_in (n := 782) (by decide +kernel) rfl, tb_in (n := 781) (by decide +kernel) rfl, tb_sel (n := 34) (by decide +kernel) rfl, tb_in (n := 9) (by decide +kernel) rfl, tb_in (n := 779) (by decide +kernel) rfl⟩
theorem cl_8_175 : CalV RX8 175 8 yX8_nextPlan cX8_nextPlan 3 (some .boolean) 0 := ⟨by decide +kernel, ⟨by decide +kernel, by decide +kernel, by decide +kernel⟩, tb_in (n := 790) (by decide +kernel) rfl, tb_in (n := 789) (by decide +kernel) rfl, tb_sel (n := 36) (by decide +kernel) rfl, tb_in (n := 9) (by decide +kernel) rfl, tb_in (n := 787) (by decide +kernel) rfl⟩
theorem cl_8_178 : CalV RX8 178 8 yX8_findKept cX8_findKept 6 (some .long) 1 := ⟨by decide +kernel, ⟨by decide +kernel, by decide +kernel, by decide +kernel⟩, tb_in (n := 774) (by decide +kernel) rfl, tb_in (n := 773) (by decide +kernel) rfl, tb_sel (n := 32) (by decide +kernel) rfl, tb_in (n := 9) (by decide +kernel) rfl, tb_in (n := 771) (by decide +kernel) rfl⟩
theorem cl_8_194 : CalS RX8 194 yX8_isHow cX8_isHow 1 (some .boolean) 1 := ⟨⟨by decide +kernel, by decide +kernel, by decide +kernel⟩, tb_in (n := 829) (by decide +kernel) rfl, tb_in (n := 828) (by decide +kernel) rfl, tb_in (n := 9) (by decide +kernel) rfl, tb_in (n := 827) (by decide +kernel) rfl⟩
theorem cl_8_197 : CalS RX8 197 yX8_stepOf cX8_stepOf 4 (some .int) 2 := ⟨⟨by decide +kernel, by decide +kernel, by decide +kernel⟩, tb_in (n := 823) (by decide +kernel) rfl, tb_in (n := 822) (by decide +kernel) rfl, tb_in (n := 9) (by decide +kernel) rfl, tb_in (n := 821) (by decide +kernel) rfl⟩
theorem cl_8_200 : CalV RX8 200 8 yX8_fault cX8_fault 3 (some .int) 0 := ⟨by decide +kernel, ⟨by decide +kernel, by decide +kernel, by decide +kernel⟩, tb_in (n := 820) (by decide +kernel) rfl, tb_in (n := 818) (by decide +kernel) rfl, tb_in (n := 819) (by decide +kernel) rfl, tb_in (n := 9) (by decide +kernel) rfl, tb_in (n := 834) (by decide +kernel) rfl⟩
theorem cl_8_207 : CalV RX8 207 8 yX8_isReady cX8_isReady 1 (some .boolean) 0 := ⟨by decide +kernel, ⟨by decide +kernel, by decide +kernel, by decide +kernel⟩, tb_in (n := 842) (by decide +kernel) rfl, tb_in (n := 841) (by decide +kernel) rfl, tb_sel (n := 37) (by decide +kernel) rfl, tb_in (n := 9) (by decide +kernel) rfl, tb_in (n := 839) (by decide +kernel) rfl⟩
theorem cl_8_210 : CalV RX8 210 8 yX8_askedAt cX8_askedAt 8 (some .int) 2 := ⟨by decide +kernel, ⟨by decide +kernel, by decide +kernel, by decide +kernel⟩, tb_in (n := 846) (by decide +kernel) rfl, tb_in (n := 845) (by decide +kernel) rfl, tb_sel (n := 38) (by decide +kernel) rfl, tb_in (n := 9) (by decide +kernel) rfl, tb_in (n := 843) (by decide +kernel) rfl⟩
theorem cl_8_213 : CalV RX8 213 8 yX8_findBoy cX8_findBoy 6 none 0 := ⟨by decide +kernel, ⟨by decide +kernel, by decide +kernel, by decide +kernel⟩, tb_in (n := 854) (by decide +kernel) rfl, tb_in (n := 853) (by decide +kernel) rfl, tb_sel (n := 39) (by decide +kernel) rfl, tb_in (n := 9) (by decide +kernel) rfl, tb_in (n := 851) (by decide +kernel) rfl⟩
theorem cl_8_216 : CalV RX8 216 8 yX8_beginPrice cX8_beginPrice 1 (some .int) 0 := ⟨by decide +kernel, ⟨by decide +kernel, by decide +kernel, by decide +kernel⟩, tb_in (n := 866) (by decide +kernel) rfl, tb_in (n := 865) (by decide +kernel) rfl, tb_sel (n := 40) (by decide +kernel) rfl, tb_in (n := 9) (by decide +kernel) rfl, tb_in (n := 863) (by decide +kernel) rfl⟩
theorem cl_8_83 : CalS RX8 83 yX8_in cX8_in 6 (some .boolean) 3 := ⟨⟨by decide +kernel, by decide +kernel, by decide +kernel⟩, tb_in (n := 667) (by decide +kernel) rfl, tb_in (n := 666) (by decide +kernel) rfl, tb_in (n := 9) (by decide +kernel) rfl, tb_in (n := 665) (by decide +kernel) rfl⟩
theorem fl_0_9 : Fld RX0 9 0 0 true (.array .int) := ⟨RX0, TX0, 1, tyX0, rfl, by decide, inT_0, tyX0_ok, nmX0, rfl, by decide +kernel, Or.inl (tb_in (n := 130) (by decide +kernel) rfl)⟩
theorem fl_1_17 : Fld RX1 17 1 1 false (.long) := ⟨RX1, TX1, 2, tyX1, rfl, by decide, inT_1, tyX1_ok, nmX1, rfl, by decide +kernel, Or.inl (tb_in (n := 144) (by decide +kernel) rfl)⟩
theorem fl_1_9 : Fld RX1 9 1 0 true (.array .int) := ⟨RX1, TX1, 2, tyX1, rfl, by decide, inT_1, tyX1_ok, nmX1, rfl, by decide +kernel, Or.inl (tb_in (n := 142) (by decide +kernel) rfl)⟩
theorem fl_2_15 : Fld RX2 15 2 1 false (.int) := ⟨RX2, TX2, 7, tyX2, rfl, by decide, inT_2, tyX2_ok, nmX2, rfl, by decide +kernel, Or.inl (tb_in (n := 176) (by decide +kernel) rfl)⟩
theorem fl_2_19 : Fld RX2 19 2 2 true (.array .int) := ⟨RX2, TX2, 7, tyX2, rfl, by decide, inT_2, tyX2_ok, nmX2, rfl, by decide +kernel, Or.inl (tb_in (n := 178) (by decide +kernel) rfl)⟩
theorem fl_2_23 : Fld RX2 23 2 3 true (.array .int) := ⟨RX2, TX2, 7, tyX2, rfl, by decide, inT_2, tyX2_ok, nmX2, rfl, by decide +kernel, Or.inl (tb_in (n := 179) (by decide +kernel) rfl)⟩
theorem fl_2_26 : Fld RX2 26 2 4 true (.array .int) := ⟨RX2, TX2, 7, tyX2, rfl, by decide, inT_2, tyX2_ok, nmX2, rfl, by decide +kernel, Or.inl (tb_in (n := 180) (by decide +kernel) rfl)⟩
theorem fl_2_29 : Fld RX2 29 2 5 true (.array .int) := ⟨RX2, TX2, 7, tyX2, rfl, by decide, inT_2, tyX2_ok, nmX2, rfl, by decide +kernel, Or.inl (tb_in (n := 181) (by decide +kernel) rfl)⟩
theorem fl_2_32 : Fld RX2 32 2 6 false (.int) := ⟨RX2, TX2, 7, tyX2, rfl, by decide, inT_2, tyX2_ok, nmX2, rfl, by decide +kernel, Or.inl (tb_in (n := 182) (by decide +kernel) rfl)⟩
theorem fl_2_37 : Fld RX2 37 5 1 false (.int) := ⟨RX5, TX5, 2, tyX5, rfl, by decide, inT_5, tyX5_ok, nmX5, rfl, by decide +kernel, Or.inr ⟨"SaturdaySale", nb_in (n := 161) (by decide +kernel) rfl⟩⟩
theorem fl_2_40 : Fld RX2 40 5 0 true (.array .int) := ⟨RX5, TX5, 2, tyX5, rfl, by decide, inT_5, tyX5_ok, nmX5, rfl, by decide +kernel, Or.inr ⟨"SaturdaySale", nb_in (n := 158) (by decide +kernel) rfl⟩⟩
theorem fl_2_9 : Fld RX2 9 2 0 false (.boolean) := ⟨RX2, TX2, 7, tyX2, rfl, by decide, inT_2, tyX2_ok, nmX2, rfl, by decide +kernel, Or.inl (tb_in (n := 174) (by decide +kernel) rfl)⟩
theorem fl_3_15 : Fld RX3 15 3 1 false (.int) := ⟨RX3, TX3, 11, tyX3, rfl, by decide, inT_3, tyX3_ok, nmX3, rfl, by decide +kernel, Or.inl (tb_in (n := 29) (by decide +kernel) rfl)⟩
theorem fl_3_21 : Fld RX3 21 3 3 true (.array .int) := ⟨RX3, TX3, 11, tyX3, rfl, by decide, inT_3, tyX3_ok, nmX3, rfl, by decide +kernel, Or.inl (tb_in (n := 37) (by decide +kernel) rfl)⟩
theorem fl_3_25 : Fld RX3 25 3 4 false (.int) := ⟨RX3, TX3, 11, tyX3, rfl, by decide, inT_3, tyX3_ok, nmX3, rfl, by decide +kernel, Or.inl (tb_in (n := 41) (by decide +kernel) rfl)⟩
theorem fl_3_28 : Fld RX3 28 3 5 true (.array .int) := ⟨RX3, TX3, 11, tyX3, rfl, by decide, inT_3, tyX3_ok, nmX3, rfl, by decide +kernel, Or.inl (tb_in (n := 44) (by decide +kernel) rfl)⟩
theorem fl_3_31 : Fld RX3 31 3 6 true (.array .int) := ⟨RX3, TX3, 11, tyX3, rfl, by decide, inT_3, tyX3_ok, nmX3, rfl, by decide +kernel, Or.inl (tb_in (n := 46) (by decide +kernel) rfl)⟩
theorem fl_3_34 : Fld RX3 34 3 7 true (.array .int) := ⟨RX3, TX3, 11, tyX3, rfl, by decide, inT_3, tyX3_ok, nmX3, rfl, by decide +kernel, Or.inl (tb_in (n := 48) (by decide +kernel) rfl)⟩
theorem fl_3_37 : Fld RX3 37 3 8 true (.array .int) := ⟨RX3, TX3, 11, tyX3, rfl, by decide, inT_3, tyX3_ok, nmX3, rfl, by decide +kernel, Or.inl (tb_in (n := 50) (by decide +kernel) rfl)⟩
theorem fl_3_40 : Fld RX3 40 3 9 false (.int) := ⟨RX3, TX3, 11, tyX3, rfl, by decide, inT_3, tyX3_ok, nmX3, rfl, by decide +kernel, Or.inl (tb_in (n := 52) (by decide +kernel) rfl)⟩
theorem fl_4_11 : Fld RX4 11 4 0 true (.array (.array .long)) := ⟨RX4, TX4, 3, tyX4, rfl, by decide, inT_4, tyX4_ok, nmX4, rfl, by decide +kernel, Or.inl (tb_in (n := 92) (by decide +kernel) rfl)⟩
theorem fl_4_18 : Fld RX4 18 4 1 true (.array (.array .int)) := ⟨RX4, TX4, 3, tyX4, rfl, by decide, inT_4, tyX4_ok, nmX4, rfl, by decide +kernel, Or.inl (tb_in (n := 94) (by decide +kernel) rfl)⟩
theorem fl_4_21 : Fld RX4 21 4 2 true (.array .long) := ⟨RX4, TX4, 3, tyX4, rfl, by decide, inT_4, tyX4_ok, nmX4, rfl, by decide +kernel, Or.inl (tb_in (n := 96) (by decide +kernel) rfl)⟩
theorem fl_4_35 : Fld RX4 35 3 1 false (.int) := ⟨RX3, TX3, 11, tyX3, rfl, by decide, inT_3, tyX3_ok, nmX3, rfl, by decide +kernel, Or.inr ⟨"SaturdaySale", nb_in (n := 32) (by decide +kernel) rfl⟩⟩
theorem fl_4_41 : Fld RX4 41 3 4 false (.int) := ⟨RX3, TX3, 11, tyX3, rfl, by decide, inT_3, tyX3_ok, nmX3, rfl, by decide +kernel, Or.inr ⟨"SaturdaySale", nb_in (n := 43) (by decide +kernel) rfl⟩⟩
theorem fl_4_55 : Fld RX4 55 3 2 false (.int) := ⟨RX3, TX3, 11, tyX3, rfl, by decide, inT_3, tyX3_ok, nmX3, rfl, by decide +kernel, Or.inr ⟨"SaturdaySale", nb_in (n := 36) (by decide +kernel) rfl⟩⟩
theorem fl_4_68 : Fld RX4 68 3 9 false (.int) := ⟨RX3, TX3, 11, tyX3, rfl, by decide, inT_3, tyX3_ok, nmX3, rfl, by decide +kernel, Or.inr ⟨"SaturdaySale", nb_in (n := 55) (by decide +kernel) rfl⟩⟩
theorem fl_4_74 : Fld RX4 74 3 3 true (.array .int) := ⟨RX3, TX3, 11, tyX3, rfl, by decide, inT_3, tyX3_ok, nmX3, rfl, by decide +kernel, Or.inr ⟨"SaturdaySale", nb_in (n := 40) (by decide +kernel) rfl⟩⟩
theorem fl_5_15 : Fld RX5 15 5 1 false (.int) := ⟨RX5, TX5, 2, tyX5, rfl, by decide, inT_5, tyX5_ok, nmX5, rfl, by decide +kernel, Or.inl (tb_in (n := 160) (by decide +kernel) rfl)⟩
theorem fl_5_9 : Fld RX5 9 5 0 true (.array .int) := ⟨RX5, TX5, 2, tyX5, rfl, by decide, inT_5, tyX5_ok, nmX5, rfl, by decide +kernel, Or.inl (tb_in (n := 157) (by decide +kernel) rfl)⟩
theorem fl_6_11 : Fld RX6 11 6 0 true (.array (.array .long)) := ⟨RX6, TX6, 3, tyX6, rfl, by decide, inT_6, tyX6_ok, nmX6, rfl, by decide +kernel, Or.inl (tb_in (n := 113) (by decide +kernel) rfl)⟩
theorem fl_6_16 : Fld RX6 16 6 1 true (.array .long) := ⟨RX6, TX6, 3, tyX6, rfl, by decide, inT_6, tyX6_ok, nmX6, rfl, by decide +kernel, Or.inl (tb_in (n := 115) (by decide +kernel) rfl)⟩
theorem fl_6_22 : Fld RX6 22 6 2 true (.array (.array .int)) := ⟨RX6, TX6, 3, tyX6, rfl, by decide, inT_6, tyX6_ok, nmX6, rfl, by decide +kernel, Or.inl (tb_in (n := 116) (by decide +kernel) rfl)⟩
theorem fl_6_29 : Fld RX6 29 3 1 false (.int) := ⟨RX3, TX3, 11, tyX3, rfl, by decide, inT_3, tyX3_ok, nmX3, rfl, by decide +kernel, Or.inr ⟨"SaturdaySale", nb_in (n := 30) (by decide +kernel) rfl⟩⟩
theorem fl_6_39 : Fld RX6 39 3 9 false (.int) := ⟨RX3, TX3, 11, tyX3, rfl, by decide, inT_3, tyX3_ok, nmX3, rfl, by decide +kernel, Or.inr ⟨"SaturdaySale", nb_in (n := 53) (by decide +kernel) rfl⟩⟩
theorem fl_6_46 : Fld RX6 46 3 3 true (.array .int) := ⟨RX3, TX3, 11, tyX3, rfl, by decide, inT_3, tyX3_ok, nmX3, rfl, by decide +kernel, Or.inr ⟨"SaturdaySale", nb_in (n := 38) (by decide +kernel) rfl⟩⟩
theorem fl_6_62 : Fld RX6 62 3 0 false (.int) := ⟨RX3, TX3, 11, tyX3, rfl, by decide, inT_3, tyX3_ok, nmX3, rfl, by decide +kernel, Or.inr ⟨"SaturdaySale", nb_in (n := 28) (by decide +kernel) rfl⟩⟩
theorem fl_6_65 : Fld RX6 65 3 2 false (.int) := ⟨RX3, TX3, 11, tyX3, rfl, by decide, inT_3, tyX3_ok, nmX3, rfl, by decide +kernel, Or.inr ⟨"SaturdaySale", nb_in (n := 35) (by decide +kernel) rfl⟩⟩
theorem fl_7_10 : Fld RX7 10 7 0 true (.object "SaturdaySale$Sale") := ⟨RX7, TX7, 14, tyX7, rfl, by decide, inT_7, tyX7_ok, nmX7, rfl, by decide +kernel, Or.inl (tb_in (n := 198) (by decide +kernel) rfl)⟩
theorem fl_7_100 : Fld RX7 100 3 3 true (.array .int) := ⟨RX3, TX3, 11, tyX3, rfl, by decide, inT_3, tyX3_ok, nmX3, rfl, by decide +kernel, Or.inr ⟨"SaturdaySale", nb_in (n := 39) (by decide +kernel) rfl⟩⟩
theorem fl_7_103 : Fld RX7 103 3 9 false (.int) := ⟨RX3, TX3, 11, tyX3, rfl, by decide, inT_3, tyX3_ok, nmX3, rfl, by decide +kernel, Or.inr ⟨"SaturdaySale", nb_in (n := 54) (by decide +kernel) rfl⟩⟩
theorem fl_7_106 : Fld RX7 106 3 5 true (.array .int) := ⟨RX3, TX3, 11, tyX3, rfl, by decide, inT_3, tyX3_ok, nmX3, rfl, by decide +kernel, Or.inr ⟨"SaturdaySale", nb_in (n := 45) (by decide +kernel) rfl⟩⟩
theorem fl_7_109 : Fld RX7 109 3 6 true (.array .int) := ⟨RX3, TX3, 11, tyX3, rfl, by decide, inT_3, tyX3_ok, nmX3, rfl, by decide +kernel, Or.inr ⟨"SaturdaySale", nb_in (n := 47) (by decide +kernel) rfl⟩⟩
theorem fl_7_112 : Fld RX7 112 3 7 true (.array .int) := ⟨RX3, TX3, 11, tyX3, rfl, by decide, inT_3, tyX3_ok, nmX3, rfl, by decide +kernel, Or.inr ⟨"SaturdaySale", nb_in (n := 49) (by decide +kernel) rfl⟩⟩
theorem fl_7_115 : Fld RX7 115 3 8 true (.array .int) := ⟨RX3, TX3, 11, tyX3, rfl, by decide, inT_3, tyX3_ok, nmX3, rfl, by decide +kernel, Or.inr ⟨"SaturdaySale", nb_in (n := 51) (by decide +kernel) rfl⟩⟩
theorem fl_7_158 : Fld RX7 158 6 0 true (.array (.array .long)) := ⟨RX6, TX6, 3, tyX6, rfl, by decide, inT_6, tyX6_ok, nmX6, rfl, by decide +kernel, Or.inr ⟨"SaturdaySale", nb_in (n := 114) (by decide +kernel) rfl⟩⟩
theorem fl_7_16 : Fld RX7 16 7 1 true (.array .int) := ⟨RX7, TX7, 14, tyX7, rfl, by decide, inT_7, tyX7_ok, nmX7, rfl, by decide +kernel, Or.inl (tb_in (n := 199) (by decide +kernel) rfl)⟩
theorem fl_7_168 : Fld RX7 168 4 1 true (.array (.array .int)) := ⟨RX4, TX4, 3, tyX4, rfl, by decide, inT_4, tyX4_ok, nmX4, rfl, by decide +kernel, Or.inr ⟨"SaturdaySale", nb_in (n := 95) (by decide +kernel) rfl⟩⟩
theorem fl_7_172 : Fld RX7 172 4 0 true (.array (.array .long)) := ⟨RX4, TX4, 3, tyX4, rfl, by decide, inT_4, tyX4_ok, nmX4, rfl, by decide +kernel, Or.inr ⟨"SaturdaySale", nb_in (n := 93) (by decide +kernel) rfl⟩⟩
theorem fl_7_179 : Fld RX7 179 1 0 true (.array .int) := ⟨RX1, TX1, 2, tyX1, rfl, by decide, inT_1, tyX1_ok, nmX1, rfl, by decide +kernel, Or.inr ⟨"SaturdaySale", nb_in (n := 143) (by decide +kernel) rfl⟩⟩
theorem fl_7_203 : Fld RX7 203 5 1 false (.int) := ⟨RX5, TX5, 2, tyX5, rfl, by decide, inT_5, tyX5_ok, nmX5, rfl, by decide +kernel, Or.inr ⟨"SaturdaySale", nb_in (n := 162) (by decide +kernel) rfl⟩⟩
theorem fl_7_206 : Fld RX7 206 5 0 true (.array .int) := ⟨RX5, TX5, 2, tyX5, rfl, by decide, inT_5, tyX5_ok, nmX5, rfl, by decide +kernel, Or.inr ⟨"SaturdaySale", nb_in (n := 159) (by decide +kernel) rfl⟩⟩
theorem fl_7_217 : Fld RX7 217 2 1 false (.int) := ⟨RX2, TX2, 7, tyX2, rfl, by decide, inT_2, tyX2_ok, nmX2, rfl, by decide +kernel, Or.inr ⟨"SaturdaySale", nb_in (n := 177) (by decide +kernel) rfl⟩⟩
theorem fl_7_23 : Fld RX7 23 7 2 true (.object "SaturdaySale$Table") := ⟨RX7, TX7, 14, tyX7, rfl, by decide, inT_7, tyX7_ok, nmX7, rfl, by decide +kernel, Or.inl (tb_in (n := 200) (by decide +kernel) rfl)⟩
theorem fl_7_234 : Fld RX7 234 2 0 false (.boolean) := ⟨RX2, TX2, 7, tyX2, rfl, by decide, inT_2, tyX2_ok, nmX2, rfl, by decide +kernel, Or.inr ⟨"SaturdaySale", nb_in (n := 175) (by decide +kernel) rfl⟩⟩
theorem fl_7_247 : Fld RX7 247 0 0 true (.array .int) := ⟨RX0, TX0, 1, tyX0, rfl, by decide, inT_0, tyX0_ok, nmX0, rfl, by decide +kernel, Or.inr ⟨"SaturdaySale", nb_in (n := 131) (by decide +kernel) rfl⟩⟩
theorem fl_7_269 : Fld RX7 269 1 1 false (.long) := ⟨RX1, TX1, 2, tyX1, rfl, by decide, inT_1, tyX1_ok, nmX1, rfl, by decide +kernel, Or.inr ⟨"SaturdaySale", nb_in (n := 145) (by decide +kernel) rfl⟩⟩
theorem fl_7_27 : Fld RX7 27 7 3 true (.object "SaturdaySale$Table") := ⟨RX7, TX7, 14, tyX7, rfl, by decide, inT_7, tyX7_ok, nmX7, rfl, by decide +kernel, Or.inl (tb_in (n := 201) (by decide +kernel) rfl)⟩
theorem fl_7_33 : Fld RX7 33 7 4 true (.object "SaturdaySale$Walk") := ⟨RX7, TX7, 14, tyX7, rfl, by decide, inT_7, tyX7_ok, nmX7, rfl, by decide +kernel, Or.inl (tb_in (n := 202) (by decide +kernel) rfl)⟩
theorem fl_7_40 : Fld RX7 40 7 5 true (.object "SaturdaySale$FallingPlans") := ⟨RX7, TX7, 14, tyX7, rfl, by decide, inT_7, tyX7_ok, nmX7, rfl, by decide +kernel, Or.inl (tb_in (n := 203) (by decide +kernel) rfl)⟩
theorem fl_7_47 : Fld RX7 47 7 6 true (.object "SaturdaySale$Greatest") := ⟨RX7, TX7, 14, tyX7, rfl, by decide, inT_7, tyX7_ok, nmX7, rfl, by decide +kernel, Or.inl (tb_in (n := 204) (by decide +kernel) rfl)⟩
theorem fl_7_51 : Fld RX7 51 7 7 true (.object "SaturdaySale$Greatest") := ⟨RX7, TX7, 14, tyX7, rfl, by decide, inT_7, tyX7_ok, nmX7, rfl, by decide +kernel, Or.inl (tb_in (n := 205) (by decide +kernel) rfl)⟩
theorem fl_7_54 : Fld RX7 54 7 8 true (.object "SaturdaySale$Greatest") := ⟨RX7, TX7, 14, tyX7, rfl, by decide, inT_7, tyX7_ok, nmX7, rfl, by decide +kernel, Or.inl (tb_in (n := 206) (by decide +kernel) rfl)⟩
theorem fl_7_60 : Fld RX7 60 7 9 true (.object "SaturdaySale$Text") := ⟨RX7, TX7, 14, tyX7, rfl, by decide, inT_7, tyX7_ok, nmX7, rfl, by decide +kernel, Or.inl (tb_in (n := 207) (by decide +kernel) rfl)⟩
theorem fl_7_67 : Fld RX7 67 7 10 true (.object "SaturdaySale$Rule") := ⟨RX7, TX7, 14, tyX7, rfl, by decide, inT_7, tyX7_ok, nmX7, rfl, by decide +kernel, Or.inl (tb_in (n := 208) (by decide +kernel) rfl)⟩
theorem fl_7_71 : Fld RX7 71 7 11 false (.int) := ⟨RX7, TX7, 14, tyX7, rfl, by decide, inT_7, tyX7_ok, nmX7, rfl, by decide +kernel, Or.inl (tb_in (n := 209) (by decide +kernel) rfl)⟩
theorem fl_7_75 : Fld RX7 75 7 12 false (.int) := ⟨RX7, TX7, 14, tyX7, rfl, by decide, inT_7, tyX7_ok, nmX7, rfl, by decide +kernel, Or.inl (tb_in (n := 210) (by decide +kernel) rfl)⟩
theorem fl_7_78 : Fld RX7 78 7 13 false (.int) := ⟨RX7, TX7, 14, tyX7, rfl, by decide, inT_7, tyX7_ok, nmX7, rfl, by decide +kernel, Or.inl (tb_in (n := 211) (by decide +kernel) rfl)⟩
theorem fl_7_85 : Fld RX7 85 3 0 false (.int) := ⟨RX3, TX3, 11, tyX3, rfl, by decide, inT_3, tyX3_ok, nmX3, rfl, by decide +kernel, Or.inr ⟨"SaturdaySale", nb_in (n := 27) (by decide +kernel) rfl⟩⟩
theorem fl_7_88 : Fld RX7 88 3 1 false (.int) := ⟨RX3, TX3, 11, tyX3, rfl, by decide, inT_3, tyX3_ok, nmX3, rfl, by decide +kernel, Or.inr ⟨"SaturdaySale", nb_in (n := 31) (by decide +kernel) rfl⟩⟩
theorem fl_7_91 : Fld RX7 91 3 2 false (.int) := ⟨RX3, TX3, 11, tyX3, rfl, by decide, inT_3, tyX3_ok, nmX3, rfl, by decide +kernel, Or.inr ⟨"SaturdaySale", nb_in (n := 34) (by decide +kernel) rfl⟩⟩
theorem fl_7_94 : Fld RX7 94 3 10 false (.int) := ⟨RX3, TX3, 11, tyX3, rfl, by decide, inT_3, tyX3_ok, nmX3, rfl, by decide +kernel, Or.inr ⟨"SaturdaySale", nb_in (n := 57) (by decide +kernel) rfl⟩⟩
theorem fl_7_97 : Fld RX7 97 3 4 false (.int) := ⟨RX3, TX3, 11, tyX3, rfl, by decide, inT_3, tyX3_ok, nmX3, rfl, by decide +kernel, Or.inr ⟨"SaturdaySale", nb_in (n := 42) (by decide +kernel) rfl⟩⟩
theorem fl_8_103 : Fld RX8 103 8 9 false (.int) := ⟨RX8, TX8, 29, tyX8, rfl, by decide, inT_8, tyX8_ok, nmX8, rfl, by decide +kernel, Or.inl (tb_in (n := 581) (by decide +kernel) rfl)⟩
theorem fl_8_120 : Fld RX8 120 8 12 false (.long) := ⟨RX8, TX8, 29, tyX8, rfl, by decide, inT_8, tyX8_ok, nmX8, rfl, by decide +kernel, Or.inl (tb_in (n := 584) (by decide +kernel) rfl)⟩
theorem fl_8_13 : Fld RX8 13 8 5 true (.array .int) := ⟨RX8, TX8, 29, tyX8, rfl, by decide, inT_8, tyX8_ok, nmX8, rfl, by decide +kernel, Or.inl (tb_in (n := 577) (by decide +kernel) rfl)⟩
theorem fl_8_16 : Fld RX8 16 8 6 true (.array .int) := ⟨RX8, TX8, 29, tyX8, rfl, by decide, inT_8, tyX8_ok, nmX8, rfl, by decide +kernel, Or.inl (tb_in (n := 578) (by decide +kernel) rfl)⟩
theorem fl_8_185 : Fld RX8 185 8 20 false (.int) := ⟨RX8, TX8, 29, tyX8, rfl, by decide, inT_8, tyX8_ok, nmX8, rfl, by decide +kernel, Or.inl (tb_in (n := 592) (by decide +kernel) rfl)⟩
theorem fl_8_19 : Fld RX8 19 8 7 true (.array .int) := ⟨RX8, TX8, 29, tyX8, rfl, by decide, inT_8, tyX8_ok, nmX8, rfl, by decide +kernel, Or.inl (tb_in (n := 579) (by decide +kernel) rfl)⟩
theorem fl_8_204 : Fld RX8 204 8 25 false (.int) := ⟨RX8, TX8, 29, tyX8, rfl, by decide, inT_8, tyX8_ok, nmX8, rfl, by decide +kernel, Or.inl (tb_in (n := 597) (by decide +kernel) rfl)⟩
theorem fl_8_22 : Fld RX8 22 8 8 true (.array .int) := ⟨RX8, TX8, 29, tyX8, rfl, by decide, inT_8, tyX8_ok, nmX8, rfl, by decide +kernel, Or.inl (tb_in (n := 580) (by decide +kernel) rfl)⟩
theorem fl_8_25 : Fld RX8 25 8 10 true (.array .int) := ⟨RX8, TX8, 29, tyX8, rfl, by decide, inT_8, tyX8_ok, nmX8, rfl, by decide +kernel, Or.inl (tb_in (n := 582) (by decide +kernel) rfl)⟩
theorem fl_8_28 : Fld RX8 28 8 11 true (.array .long) := ⟨RX8, TX8, 29, tyX8, rfl, by decide, inT_8, tyX8_ok, nmX8, rfl, by decide +kernel, Or.inl (tb_in (n := 583) (by decide +kernel) rfl)⟩
theorem fl_8_32 : Fld RX8 32 8 13 true (.array .long) := ⟨RX8, TX8, 29, tyX8, rfl, by decide, inT_8, tyX8_ok, nmX8, rfl, by decide +kernel, Or.inl (tb_in (n := 585) (by decide +kernel) rfl)⟩
theorem fl_8_35 : Fld RX8 35 8 14 true (.array .int) := ⟨RX8, TX8, 29, tyX8, rfl, by decide, inT_8, tyX8_ok, nmX8, rfl, by decide +kernel, Or.inl (tb_in (n := 586) (by decide +kernel) rfl)⟩
theorem fl_8_38 : Fld RX8 38 8 15 true (.array .long) := ⟨RX8, TX8, 29, tyX8, rfl, by decide, inT_8, tyX8_ok, nmX8, rfl, by decide +kernel, Or.inl (tb_in (n := 587) (by decide +kernel) rfl)⟩
theorem fl_8_41 : Fld RX8 41 8 16 true (.array .int) := ⟨RX8, TX8, 29, tyX8, rfl, by decide, inT_8, tyX8_ok, nmX8, rfl, by decide +kernel, Or.inl (tb_in (n := 588) (by decide +kernel) rfl)⟩
theorem fl_8_44 : Fld RX8 44 8 17 true (.array .long) := ⟨RX8, TX8, 29, tyX8, rfl, by decide, inT_8, tyX8_ok, nmX8, rfl, by decide +kernel, Or.inl (tb_in (n := 589) (by decide +kernel) rfl)⟩
theorem fl_8_47 : Fld RX8 47 8 18 true (.array .int) := ⟨RX8, TX8, 29, tyX8, rfl, by decide, inT_8, tyX8_ok, nmX8, rfl, by decide +kernel, Or.inl (tb_in (n := 590) (by decide +kernel) rfl)⟩
theorem fl_8_50 : Fld RX8 50 8 19 true (.array .int) := ⟨RX8, TX8, 29, tyX8, rfl, by decide, inT_8, tyX8_ok, nmX8, rfl, by decide +kernel, Or.inl (tb_in (n := 591) (by decide +kernel) rfl)⟩
theorem fl_8_53 : Fld RX8 53 8 21 true (.array .int) := ⟨RX8, TX8, 29, tyX8, rfl, by decide, inT_8, tyX8_ok, nmX8, rfl, by decide +kernel, Or.inl (tb_in (n := 593) (by decide +kernel) rfl)⟩
theorem fl_8_56 : Fld RX8 56 8 22 true (.array .int) := ⟨RX8, TX8, 29, tyX8, rfl, by decide, inT_8, tyX8_ok, nmX8, rfl, by decide +kernel, Or.inl (tb_in (n := 594) (by decide +kernel) rfl)⟩
theorem fl_8_59 : Fld RX8 59 8 23 true (.array .int) := ⟨RX8, TX8, 29, tyX8, rfl, by decide, inT_8, tyX8_ok, nmX8, rfl, by decide +kernel, Or.inl (tb_in (n := 595) (by decide +kernel) rfl)⟩
theorem fl_8_62 : Fld RX8 62 8 24 true (.array .int) := ⟨RX8, TX8, 29, tyX8, rfl, by decide, inT_8, tyX8_ok, nmX8, rfl, by decide +kernel, Or.inl (tb_in (n := 596) (by decide +kernel) rfl)⟩
theorem fl_8_65 : Fld RX8 65 8 26 false (.int) := ⟨RX8, TX8, 29, tyX8, rfl, by decide, inT_8, tyX8_ok, nmX8, rfl, by decide +kernel, Or.inl (tb_in (n := 598) (by decide +kernel) rfl)⟩
theorem fl_8_69 : Fld RX8 69 8 27 true (.array .long) := ⟨RX8, TX8, 29, tyX8, rfl, by decide, inT_8, tyX8_ok, nmX8, rfl, by decide +kernel, Or.inl (tb_in (n := 599) (by decide +kernel) rfl)⟩
theorem fl_8_7 : Fld RX8 7 8 3 true (.array .int) := ⟨RX8, TX8, 29, tyX8, rfl, by decide, inT_8, tyX8_ok, nmX8, rfl, by decide +kernel, Or.inl (tb_in (n := 575) (by decide +kernel) rfl)⟩
theorem fl_8_72 : Fld RX8 72 8 28 true (.array .long) := ⟨RX8, TX8, 29, tyX8, rfl, by decide, inT_8, tyX8_ok, nmX8, rfl, by decide +kernel, Or.inl (tb_in (n := 600) (by decide +kernel) rfl)⟩
theorem fl_8_75 : Fld RX8 75 8 0 false (.int) := ⟨RX8, TX8, 29, tyX8, rfl, by decide, inT_8, tyX8_ok, nmX8, rfl, by decide +kernel, Or.inl (tb_in (n := 572) (by decide +kernel) rfl)⟩
theorem fl_8_78 : Fld RX8 78 8 1 false (.int) := ⟨RX8, TX8, 29, tyX8, rfl, by decide, inT_8, tyX8_ok, nmX8, rfl, by decide +kernel, Or.inl (tb_in (n := 573) (by decide +kernel) rfl)⟩
theorem fl_8_93 : Fld RX8 93 8 2 false (.int) := ⟨RX8, TX8, 29, tyX8, rfl, by decide, inT_8, tyX8_ok, nmX8, rfl, by decide +kernel, Or.inl (tb_in (n := 574) (by decide +kernel) rfl)⟩
theorem fl_8_96 : Fld RX8 96 8 4 false (.int) := ⟨RX8, TX8, 29, tyX8, rfl, by decide, inT_8, tyX8_ok, nmX8, rfl, by decide +kernel, Or.inl (tb_in (n := 576) (by decide +kernel) rfl)⟩
theorem lg_1_15 : Cond.constantLong RX1 15 (-1) ∈ TB := tb_in (n := 141) (by decide +kernel) rfl
theorem lg_4_82 : Cond.constantLong RX4 82 (4) ∈ TB := tb_in (n := 371) (by decide +kernel) rfl
theorem lg_6_82 : Cond.constantLong RX6 82 (4) ∈ TB := tb_in (n := 324) (by decide +kernel) rfl
theorem lg_7_140 : Cond.constantLong RX7 140 (-1000000000000000000) ∈ TB := tb_in (n := 299) (by decide +kernel) rfl
theorem lg_8_101 : Cond.constantLong RX8 101 (30) ∈ TB := tb_in (n := 680) (by decide +kernel) rfl
theorem lg_8_110 : Cond.constantLong RX8 110 (3) ∈ TB := tb_in (n := 689) (by decide +kernel) rfl
theorem lg_8_112 : Cond.constantLong RX8 112 (-1) ∈ TB := tb_in (n := 690) (by decide +kernel) rfl
theorem lg_8_114 : Cond.constantLong RX8 114 (5) ∈ TB := tb_in (n := 695) (by decide +kernel) rfl
theorem lg_8_141 : Cond.constantLong RX8 141 (-1000000000000000002) ∈ TB := tb_in (n := 711) (by decide +kernel) rfl
theorem lg_8_143 : Cond.constantLong RX8 143 (-1000000000000000003) ∈ TB := tb_in (n := 712) (by decide +kernel) rfl
theorem lg_8_181 : Cond.constantLong RX8 181 (33) ∈ TB := tb_in (n := 811) (by decide +kernel) rfl
theorem lg_8_183 : Cond.constantLong RX8 183 (126) ∈ TB := tb_in (n := 812) (by decide +kernel) rfl
theorem lg_8_188 : Cond.constantLong RX8 188 (48) ∈ TB := tb_in (n := 824) (by decide +kernel) rfl
theorem lg_8_190 : Cond.constantLong RX8 190 (57) ∈ TB := tb_in (n := 825) (by decide +kernel) rfl
theorem lg_8_192 : Cond.constantLong RX8 192 (52) ∈ TB := tb_in (n := 826) (by decide +kernel) rfl
theorem lg_8_219 : Cond.constantLong RX8 219 (10) ∈ TB := tb_in (n := 871) (by decide +kernel) rfl
theorem lg_8_221 : Cond.constantLong RX8 221 (15) ∈ TB := tb_in (n := 872) (by decide +kernel) rfl
theorem lg_8_223 : Cond.constantLong RX8 223 (20) ∈ TB := tb_in (n := 873) (by decide +kernel) rfl
theorem lg_8_225 : Cond.constantLong RX8 225 (24) ∈ TB := tb_in (n := 874) (by decide +kernel) rfl
theorem lg_8_227 : Cond.constantLong RX8 227 (32) ∈ TB := tb_in (n := 875) (by decide +kernel) rfl
theorem lg_8_81 : Cond.constantLong RX8 81 (2) ∈ TB := tb_in (n := 664) (by decide +kernel) rfl
theorem lg_8_87 : Cond.constantLong RX8 87 (12) ∈ TB := tb_in (n := 668) (by decide +kernel) rfl
theorem lg_8_89 : Cond.constantLong RX8 89 (6) ∈ TB := tb_in (n := 669) (by decide +kernel) rfl
theorem lg_8_91 : Cond.constantLong RX8 91 (99) ∈ TB := tb_in (n := 670) (by decide +kernel) rfl
theorem lg_8_99 : Cond.constantLong RX8 99 (4) ∈ TB := tb_in (n := 679) (by decide +kernel) rfl
