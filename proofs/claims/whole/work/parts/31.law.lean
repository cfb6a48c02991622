def R_law : String := "SaturdaySaleLaw"
def lw_P (b : Addr) (xs : List Int32) (args : Array Value) (s : State) : Prop := args = #[.ref b] ∧ s.IntsAt b xs ∧ xs.length ≤ 2048 ∧ (Jvm.Cond.and given_1 narrow_1).before args s = true
def lw_Q (_ : Array Value) (s : State) (o : Outcome) (t : State) : Prop := o = .returned (some (.int 1)) ∧ Framed s o t [] 600000 7302250
def lw_Z (below : List Frame) (a : Array Value) (s : State) : State → Prop := fun t => ∃ o, t.status = .running ∧ Ended t below o ∧ lw_Q a s o t
/-- the law's own end, with 1 on the stack, nothing written that was there before, its room as the claim has it -/
theorem lw_ret {p : Program} {l : Launch} {e : Env} {s : State} {m : MethodId} {below : List Frame} {meth : Method} {c : Code} {b : Nat} (hx : p.tables.exec = Jvm.exec) (hb : c.code = code) (hr : meth.sig.returnType = ret) (hlocks : meth.locks = false) {pc : Nat} {H : Heap} {ls : Array Slot} (hdg : decode code pc = .ok (.ireturn, 1)) : W p l e room_1 s m #[Value.ref b] below meth c H [] 600000 7302250 (lw_Z below #[Value.ref b] s) (F0 m pc ls [.int 1]) := by
  intro T hT X
  obtain ⟨fs, hret, hrun, hended, hW, hframe⟩ := X.leave (v := some (.int 1)) (hlocks := hlocks) (fun h => by rw [hr] at h; cases h)
  have hmeth' : T.vm.method? m = some meth := X.method'
  refine ⟨T.setFrames fs, ?_, .returned (some (.int 1)), hrun, hended, rfl, ⟨_, rfl⟩, hW, hframe⟩
  jvm_step X.here [X.here.top, hx, hb, hdg, hmeth', hr, ret, narrow_b1]
  (try refine ⟨rfl, ?_⟩); (try refine ⟨rfl, ?_⟩)
  first | (intro acts; rw [hret _ acts rfl rfl rfl]) | rw [hret _ _ rfl rfl rfl]
  exact Steps.refl _
/-- what holds at the law's entry: the machine, the code, the tables' words (any of lw_tbl by 'hts w (by decide +kernel)'), the script of L ints xs at the cell b, what the Statement gives of the start (any of its parts by flat_of_before) -/
def lw_At (p : Program) (s : State) (m : MethodId) (meth : Method) (c : Code) (b L : Nat) (xs : Nat → Int32) : Prop :=
  p.tables.exec = Jvm.exec ∧ c.code = code ∧ meth.sig.returnType = ret ∧ c.maxLocals = 4 ∧ s.vm.findClass R_law = some m.cls ∧ (∀ w ∈ lw_tbl, w.before #[Value.ref b] s = true) ∧ va_X b L xs s s.heap ∧ b < s.heap.size ∧ meth.locks = false ∧ (Jvm.Cond.and given_1 narrow_1).before #[Value.ref b] s = true
theorem cl_L_13 : CalV RL 13 7 yX7_set cX7_set 4 (some .int) 2 := ⟨by decide +kernel, ⟨by decide +kernel, by decide +kernel, by decide +kernel⟩, tb_in (n := 244) (by decide +kernel) rfl, tb_in (n := 242) (by decide +kernel) rfl, tb_in (n := 243) (by decide +kernel) rfl, tb_in (n := 1) (by decide +kernel) rfl, tb_in (n := 241) (by decide +kernel) rfl⟩
theorem cl_L_17 : CalV RL 17 8 yX8_set cX8_set 4 (some .int) 2 := ⟨by decide +kernel, ⟨by decide +kernel, by decide +kernel, by decide +kernel⟩, tb_in (n := 663) (by decide +kernel) rfl, tb_in (n := 661) (by decide +kernel) rfl, tb_in (n := 662) (by decide +kernel) rfl, tb_in (n := 9) (by decide +kernel) rfl, tb_in (n := 660) (by decide +kernel) rfl⟩
theorem cl_L_18 : CalV RL 18 7 yX7_price cX7_price 3 (some .int) 1 := ⟨by decide +kernel, ⟨by decide +kernel, by decide +kernel, by decide +kernel⟩, tb_in (n := 251) (by decide +kernel) rfl, tb_in (n := 249) (by decide +kernel) rfl, tb_in (n := 250) (by decide +kernel) rfl, tb_in (n := 1) (by decide +kernel) rfl, tb_in (n := 248) (by decide +kernel) rfl⟩
theorem cl_L_22 : CalV RL 22 8 yX8_price cX8_price 2 (some .int) 1 := ⟨by decide +kernel, ⟨by decide +kernel, by decide +kernel, by decide +kernel⟩, tb_in (n := 674) (by decide +kernel) rfl, tb_in (n := 672) (by decide +kernel) rfl, tb_in (n := 673) (by decide +kernel) rfl, tb_in (n := 9) (by decide +kernel) rfl, tb_in (n := 671) (by decide +kernel) rfl⟩
theorem cl_L_23 : CalV RL 23 7 yX7_sort cX7_sort 5 (some .int) 3 := ⟨by decide +kernel, ⟨by decide +kernel, by decide +kernel, by decide +kernel⟩, tb_in (n := 255) (by decide +kernel) rfl, tb_in (n := 253) (by decide +kernel) rfl, tb_in (n := 254) (by decide +kernel) rfl, tb_in (n := 1) (by decide +kernel) rfl, tb_in (n := 252) (by decide +kernel) rfl⟩
theorem cl_L_27 : CalV RL 27 8 yX8_sort cX8_sort 4 (some .int) 3 := ⟨by decide +kernel, ⟨by decide +kernel, by decide +kernel, by decide +kernel⟩, tb_in (n := 678) (by decide +kernel) rfl, tb_in (n := 676) (by decide +kernel) rfl, tb_in (n := 677) (by decide +kernel) rfl, tb_in (n := 9) (by decide +kernel) rfl, tb_in (n := 675) (by decide +kernel) rfl⟩
theorem cl_L_28 : CalV RL 28 7 yX7_change cX7_change 5 (some .int) 3 := ⟨by decide +kernel, ⟨by decide +kernel, by decide +kernel, by decide +kernel⟩, tb_in (n := 259) (by decide +kernel) rfl, tb_in (n := 257) (by decide +kernel) rfl, tb_in (n := 258) (by decide +kernel) rfl, tb_in (n := 1) (by decide +kernel) rfl, tb_in (n := 256) (by decide +kernel) rfl⟩
theorem cl_L_31 : CalV RL 31 8 yX8_change cX8_change 5 (some .int) 3 := ⟨by decide +kernel, ⟨by decide +kernel, by decide +kernel, by decide +kernel⟩, tb_in (n := 684) (by decide +kernel) rfl, tb_in (n := 682) (by decide +kernel) rfl, tb_in (n := 683) (by decide +kernel) rfl, tb_in (n := 9) (by decide +kernel) rfl, tb_in (n := 681) (by decide +kernel) rfl⟩
theorem cl_L_32 : CalV RL 32 7 yX7_worth cX7_worth 3 (some .int) 2 := ⟨by decide +kernel, ⟨by decide +kernel, by decide +kernel, by decide +kernel⟩, tb_in (n := 275) (by decide +kernel) rfl, tb_in (n := 273) (by decide +kernel) rfl, tb_in (n := 274) (by decide +kernel) rfl, tb_in (n := 1) (by decide +kernel) rfl, tb_in (n := 272) (by decide +kernel) rfl⟩
theorem cl_L_35 : CalV RL 35 8 yX8_worth cX8_worth 3 (some .int) 2 := ⟨by decide +kernel, ⟨by decide +kernel, by decide +kernel, by decide +kernel⟩, tb_in (n := 694) (by decide +kernel) rfl, tb_in (n := 692) (by decide +kernel) rfl, tb_in (n := 693) (by decide +kernel) rfl, tb_in (n := 9) (by decide +kernel) rfl, tb_in (n := 691) (by decide +kernel) rfl⟩
theorem cl_L_36 : CalV RL 36 7 yX7_plan cX7_plan 4 (some .int) 2 := ⟨by decide +kernel, ⟨by decide +kernel, by decide +kernel, by decide +kernel⟩, tb_in (n := 283) (by decide +kernel) rfl, tb_in (n := 281) (by decide +kernel) rfl, tb_in (n := 282) (by decide +kernel) rfl, tb_in (n := 1) (by decide +kernel) rfl, tb_in (n := 280) (by decide +kernel) rfl⟩
theorem cl_L_39 : CalV RL 39 8 yX8_plan cX8_plan 4 (some .int) 2 := ⟨by decide +kernel, ⟨by decide +kernel, by decide +kernel, by decide +kernel⟩, tb_in (n := 703) (by decide +kernel) rfl, tb_in (n := 701) (by decide +kernel) rfl, tb_in (n := 702) (by decide +kernel) rfl, tb_in (n := 9) (by decide +kernel) rfl, tb_in (n := 700) (by decide +kernel) rfl⟩
theorem cl_L_40 : CalV RL 40 7 yX7_brings cX7_brings 3 (some .long) 1 := ⟨by decide +kernel, ⟨by decide +kernel, by decide +kernel, by decide +kernel⟩, tb_in (n := 291) (by decide +kernel) rfl, tb_in (n := 289) (by decide +kernel) rfl, tb_in (n := 290) (by decide +kernel) rfl, tb_in (n := 1) (by decide +kernel) rfl, tb_in (n := 288) (by decide +kernel) rfl⟩
theorem cl_L_44 : CalV RL 44 8 yX8_brings cX8_brings 2 (some .long) 1 := ⟨by decide +kernel, ⟨by decide +kernel, by decide +kernel, by decide +kernel⟩, tb_in (n := 707) (by decide +kernel) rfl, tb_in (n := 705) (by decide +kernel) rfl, tb_in (n := 706) (by decide +kernel) rfl, tb_in (n := 9) (by decide +kernel) rfl, tb_in (n := 704) (by decide +kernel) rfl⟩
theorem cl_L_45 : CalV RL 45 7 yX7_left cX7_left 4 (some .long) 2 := ⟨by decide +kernel, ⟨by decide +kernel, by decide +kernel, by decide +kernel⟩, tb_in (n := 339) (by decide +kernel) rfl, tb_in (n := 337) (by decide +kernel) rfl, tb_in (n := 338) (by decide +kernel) rfl, tb_in (n := 1) (by decide +kernel) rfl, tb_in (n := 336) (by decide +kernel) rfl⟩
theorem cl_L_49 : CalV RL 49 8 yX8_left cX8_left 3 (some .long) 2 := ⟨by decide +kernel, ⟨by decide +kernel, by decide +kernel, by decide +kernel⟩, tb_in (n := 739) (by decide +kernel) rfl, tb_in (n := 737) (by decide +kernel) rfl, tb_in (n := 738) (by decide +kernel) rfl, tb_in (n := 9) (by decide +kernel) rfl, tb_in (n := 736) (by decide +kernel) rfl⟩
theorem cl_L_50 : CalV RL 50 7 yX7_best cX7_best 4 (some .int) 2 := ⟨by decide +kernel, ⟨by decide +kernel, by decide +kernel, by decide +kernel⟩, tb_in (n := 343) (by decide +kernel) rfl, tb_in (n := 341) (by decide +kernel) rfl, tb_in (n := 342) (by decide +kernel) rfl, tb_in (n := 1) (by decide +kernel) rfl, tb_in (n := 340) (by decide +kernel) rfl⟩
theorem cl_L_53 : CalV RL 53 8 yX8_best cX8_best 3 (some .int) 2 := ⟨by decide +kernel, ⟨by decide +kernel, by decide +kernel, by decide +kernel⟩, tb_in (n := 747) (by decide +kernel) rfl, tb_in (n := 745) (by decide +kernel) rfl, tb_in (n := 746) (by decide +kernel) rfl, tb_in (n := 9) (by decide +kernel) rfl, tb_in (n := 744) (by decide +kernel) rfl⟩
theorem cl_L_54 : CalV RL 54 7 yX7_state cX7_state 5 (some .long) 3 := ⟨by decide +kernel, ⟨by decide +kernel, by decide +kernel, by decide +kernel⟩, tb_in (n := 379) (by decide +kernel) rfl, tb_in (n := 377) (by decide +kernel) rfl, tb_in (n := 378) (by decide +kernel) rfl, tb_in (n := 1) (by decide +kernel) rfl, tb_in (n := 376) (by decide +kernel) rfl⟩
theorem cl_L_58 : CalV RL 58 8 yX8_state cX8_state 4 (some .long) 3 := ⟨by decide +kernel, ⟨by decide +kernel, by decide +kernel, by decide +kernel⟩, tb_in (n := 759) (by decide +kernel) rfl, tb_in (n := 757) (by decide +kernel) rfl, tb_in (n := 758) (by decide +kernel) rfl, tb_in (n := 9) (by decide +kernel) rfl, tb_in (n := 756) (by decide +kernel) rfl⟩
theorem cl_L_59 : CalV RL 59 7 yX7_dip cX7_dip 6 (some .int) 1 := ⟨by decide +kernel, ⟨by decide +kernel, by decide +kernel, by decide +kernel⟩, tb_in (n := 383) (by decide +kernel) rfl, tb_in (n := 381) (by decide +kernel) rfl, tb_in (n := 382) (by decide +kernel) rfl, tb_in (n := 1) (by decide +kernel) rfl, tb_in (n := 380) (by decide +kernel) rfl⟩
theorem cl_L_62 : CalV RL 62 8 yX8_dip cX8_dip 5 (some .int) 1 := ⟨by decide +kernel, ⟨by decide +kernel, by decide +kernel, by decide +kernel⟩, tb_in (n := 766) (by decide +kernel) rfl, tb_in (n := 764) (by decide +kernel) rfl, tb_in (n := 765) (by decide +kernel) rfl, tb_in (n := 9) (by decide +kernel) rfl, tb_in (n := 763) (by decide +kernel) rfl⟩
theorem cl_L_63 : CalV RL 63 7 yX7_kept cX7_kept 4 (some .int) 2 := ⟨by decide +kernel, ⟨by decide +kernel, by decide +kernel, by decide +kernel⟩, tb_in (n := 387) (by decide +kernel) rfl, tb_in (n := 385) (by decide +kernel) rfl, tb_in (n := 386) (by decide +kernel) rfl, tb_in (n := 1) (by decide +kernel) rfl, tb_in (n := 384) (by decide +kernel) rfl⟩
theorem cl_L_66 : CalV RL 66 8 yX8_kept cX8_kept 3 (some .int) 2 := ⟨by decide +kernel, ⟨by decide +kernel, by decide +kernel, by decide +kernel⟩, tb_in (n := 770) (by decide +kernel) rfl, tb_in (n := 768) (by decide +kernel) rfl, tb_in (n := 769) (by decide +kernel) rfl, tb_in (n := 9) (by decide +kernel) rfl, tb_in (n := 767) (by decide +kernel) rfl⟩
theorem cl_L_67 : CalV RL 67 7 yX7_keeps cX7_keeps 4 (some .long) 2 := ⟨by decide +kernel, ⟨by decide +kernel, by decide +kernel, by decide +kernel⟩, tb_in (n := 441) (by decide +kernel) rfl, tb_in (n := 439) (by decide +kernel) rfl, tb_in (n := 440) (by decide +kernel) rfl, tb_in (n := 1) (by decide +kernel) rfl, tb_in (n := 438) (by decide +kernel) rfl⟩
theorem cl_L_70 : CalV RL 70 8 yX8_keeps cX8_keeps 7 (some .long) 2 := ⟨by decide +kernel, ⟨by decide +kernel, by decide +kernel, by decide +kernel⟩, tb_in (n := 794) (by decide +kernel) rfl, tb_in (n := 792) (by decide +kernel) rfl, tb_in (n := 793) (by decide +kernel) rfl, tb_in (n := 9) (by decide +kernel) rfl, tb_in (n := 791) (by decide +kernel) rfl⟩
theorem cl_L_71 : CalV RL 71 7 yX7_rather cX7_rather 4 (some .int) 0 := ⟨by decide +kernel, ⟨by decide +kernel, by decide +kernel, by decide +kernel⟩, tb_in (n := 449) (by decide +kernel) rfl, tb_in (n := 447) (by decide +kernel) rfl, tb_in (n := 448) (by decide +kernel) rfl, tb_in (n := 1) (by decide +kernel) rfl, tb_in (n := 446) (by decide +kernel) rfl⟩
theorem cl_L_75 : CalV RL 75 8 yX8_rather cX8_rather 3 (some .int) 0 := ⟨by decide +kernel, ⟨by decide +kernel, by decide +kernel, by decide +kernel⟩, tb_in (n := 798) (by decide +kernel) rfl, tb_in (n := 796) (by decide +kernel) rfl, tb_in (n := 797) (by decide +kernel) rfl, tb_in (n := 9) (by decide +kernel) rfl, tb_in (n := 795) (by decide +kernel) rfl⟩
theorem cl_L_76 : CalV RL 76 7 yX7_picks cX7_picks 4 (some .int) 2 := ⟨by decide +kernel, ⟨by decide +kernel, by decide +kernel, by decide +kernel⟩, tb_in (n := 465) (by decide +kernel) rfl, tb_in (n := 463) (by decide +kernel) rfl, tb_in (n := 464) (by decide +kernel) rfl, tb_in (n := 1) (by decide +kernel) rfl, tb_in (n := 462) (by decide +kernel) rfl⟩
theorem cl_L_79 : CalV RL 79 8 yX8_picks cX8_picks 3 (some .int) 2 := ⟨by decide +kernel, ⟨by decide +kernel, by decide +kernel, by decide +kernel⟩, tb_in (n := 802) (by decide +kernel) rfl, tb_in (n := 800) (by decide +kernel) rfl, tb_in (n := 801) (by decide +kernel) rfl, tb_in (n := 9) (by decide +kernel) rfl, tb_in (n := 799) (by decide +kernel) rfl⟩
theorem cl_L_80 : CalV RL 80 7 yX7_made cX7_made 7 (some .int) 1 := ⟨by decide +kernel, ⟨by decide +kernel, by decide +kernel, by decide +kernel⟩, tb_in (n := 471) (by decide +kernel) rfl, tb_in (n := 469) (by decide +kernel) rfl, tb_in (n := 470) (by decide +kernel) rfl, tb_in (n := 1) (by decide +kernel) rfl, tb_in (n := 468) (by decide +kernel) rfl⟩
theorem cl_L_83 : CalV RL 83 8 yX8_made cX8_made 6 (some .int) 1 := ⟨by decide +kernel, ⟨by decide +kernel, by decide +kernel, by decide +kernel⟩, tb_in (n := 806) (by decide +kernel) rfl, tb_in (n := 804) (by decide +kernel) rfl, tb_in (n := 805) (by decide +kernel) rfl, tb_in (n := 9) (by decide +kernel) rfl, tb_in (n := 803) (by decide +kernel) rfl⟩
theorem cl_L_84 : CalV RL 84 7 yX7_say cX7_say 2 (some .int) 1 := ⟨by decide +kernel, ⟨by decide +kernel, by decide +kernel, by decide +kernel⟩, tb_in (n := 475) (by decide +kernel) rfl, tb_in (n := 473) (by decide +kernel) rfl, tb_in (n := 474) (by decide +kernel) rfl, tb_in (n := 1) (by decide +kernel) rfl, tb_in (n := 472) (by decide +kernel) rfl⟩
theorem cl_L_87 : CalV RL 87 8 yX8_say cX8_say 2 (some .int) 1 := ⟨by decide +kernel, ⟨by decide +kernel, by decide +kernel, by decide +kernel⟩, tb_in (n := 810) (by decide +kernel) rfl, tb_in (n := 808) (by decide +kernel) rfl, tb_in (n := 809) (by decide +kernel) rfl, tb_in (n := 9) (by decide +kernel) rfl, tb_in (n := 807) (by decide +kernel) rfl⟩
theorem cl_L_88 : CalV RL 88 7 yX7_wipe cX7_wipe 2 (some .int) 0 := ⟨by decide +kernel, ⟨by decide +kernel, by decide +kernel, by decide +kernel⟩, tb_in (n := 479) (by decide +kernel) rfl, tb_in (n := 477) (by decide +kernel) rfl, tb_in (n := 478) (by decide +kernel) rfl, tb_in (n := 1) (by decide +kernel) rfl, tb_in (n := 476) (by decide +kernel) rfl⟩
theorem cl_L_91 : CalV RL 91 8 yX8_wipe cX8_wipe 2 (some .int) 0 := ⟨by decide +kernel, ⟨by decide +kernel, by decide +kernel, by decide +kernel⟩, tb_in (n := 816) (by decide +kernel) rfl, tb_in (n := 814) (by decide +kernel) rfl, tb_in (n := 815) (by decide +kernel) rfl, tb_in (n := 9) (by decide +kernel) rfl, tb_in (n := 813) (by decide +kernel) rfl⟩
theorem cl_L_92 : CalV RL 92 7 yX7_fault cX7_fault 1 (some .int) 0 := ⟨by decide +kernel, ⟨by decide +kernel, by decide +kernel, by decide +kernel⟩, tb_in (n := 483) (by decide +kernel) rfl, tb_in (n := 481) (by decide +kernel) rfl, tb_in (n := 482) (by decide +kernel) rfl, tb_in (n := 1) (by decide +kernel) rfl, tb_in (n := 480) (by decide +kernel) rfl⟩
theorem cl_L_95 : CalV RL 95 8 yX8_fault cX8_fault 3 (some .int) 0 := ⟨by decide +kernel, ⟨by decide +kernel, by decide +kernel, by decide +kernel⟩, tb_in (n := 820) (by decide +kernel) rfl, tb_in (n := 818) (by decide +kernel) rfl, tb_in (n := 819) (by decide +kernel) rfl, tb_in (n := 9) (by decide +kernel) rfl, tb_in (n := 817) (by decide +kernel) rfl⟩
theorem cl_L_96 : CalV RL 96 7 yX7_rule cX7_rule 1 (some .int) 0 := ⟨by decide +kernel, ⟨by decide +kernel, by decide +kernel, by decide +kernel⟩, tb_in (n := 506) (by decide +kernel) rfl, tb_in (n := 504) (by decide +kernel) rfl, tb_in (n := 505) (by decide +kernel) rfl, tb_in (n := 1) (by decide +kernel) rfl, tb_in (n := 503) (by decide +kernel) rfl⟩
theorem cl_L_99 : CalV RL 99 8 yX8_rule cX8_rule 4 (some .int) 0 := ⟨by decide +kernel, ⟨by decide +kernel, by decide +kernel, by decide +kernel⟩, tb_in (n := 833) (by decide +kernel) rfl, tb_in (n := 831) (by decide +kernel) rfl, tb_in (n := 832) (by decide +kernel) rfl, tb_in (n := 9) (by decide +kernel) rfl, tb_in (n := 830) (by decide +kernel) rfl⟩
theorem cl_L_100 : CalV RL 100 7 yX7_asks cX7_asks 4 (some .int) 2 := ⟨by decide +kernel, ⟨by decide +kernel, by decide +kernel, by decide +kernel⟩, tb_in (n := 521) (by decide +kernel) rfl, tb_in (n := 519) (by decide +kernel) rfl, tb_in (n := 520) (by decide +kernel) rfl, tb_in (n := 1) (by decide +kernel) rfl, tb_in (n := 518) (by decide +kernel) rfl⟩
theorem cl_L_103 : CalV RL 103 8 yX8_asks cX8_asks 3 (some .int) 2 := ⟨by decide +kernel, ⟨by decide +kernel, by decide +kernel, by decide +kernel⟩, tb_in (n := 838) (by decide +kernel) rfl, tb_in (n := 836) (by decide +kernel) rfl, tb_in (n := 837) (by decide +kernel) rfl, tb_in (n := 9) (by decide +kernel) rfl, tb_in (n := 835) (by decide +kernel) rfl⟩
theorem cl_L_104 : CalV RL 104 7 yX7_boy cX7_boy 3 (some .long) 1 := ⟨by decide +kernel, ⟨by decide +kernel, by decide +kernel, by decide +kernel⟩, tb_in (n := 540) (by decide +kernel) rfl, tb_in (n := 538) (by decide +kernel) rfl, tb_in (n := 539) (by decide +kernel) rfl, tb_in (n := 1) (by decide +kernel) rfl, tb_in (n := 537) (by decide +kernel) rfl⟩
theorem cl_L_107 : CalV RL 107 8 yX8_boy cX8_boy 2 (some .long) 1 := ⟨by decide +kernel, ⟨by decide +kernel, by decide +kernel, by decide +kernel⟩, tb_in (n := 850) (by decide +kernel) rfl, tb_in (n := 848) (by decide +kernel) rfl, tb_in (n := 849) (by decide +kernel) rfl, tb_in (n := 9) (by decide +kernel) rfl, tb_in (n := 847) (by decide +kernel) rfl⟩
theorem cl_L_108 : CalV RL 108 7 yX7_worst cX7_worst 8 (some .int) 0 := ⟨by decide +kernel, ⟨by decide +kernel, by decide +kernel, by decide +kernel⟩, tb_in (n := 553) (by decide +kernel) rfl, tb_in (n := 551) (by decide +kernel) rfl, tb_in (n := 552) (by decide +kernel) rfl, tb_in (n := 1) (by decide +kernel) rfl, tb_in (n := 550) (by decide +kernel) rfl⟩
theorem cl_L_111 : CalV RL 111 8 yX8_worst cX8_worst 3 (some .int) 0 := ⟨by decide +kernel, ⟨by decide +kernel, by decide +kernel, by decide +kernel⟩, tb_in (n := 858) (by decide +kernel) rfl, tb_in (n := 856) (by decide +kernel) rfl, tb_in (n := 857) (by decide +kernel) rfl, tb_in (n := 9) (by decide +kernel) rfl, tb_in (n := 855) (by decide +kernel) rfl⟩
theorem cl_L_112 : CalV RL 112 7 yX7_edge cX7_edge 4 (some .int) 1 := ⟨by decide +kernel, ⟨by decide +kernel, by decide +kernel, by decide +kernel⟩, tb_in (n := 557) (by decide +kernel) rfl, tb_in (n := 555) (by decide +kernel) rfl, tb_in (n := 556) (by decide +kernel) rfl, tb_in (n := 1) (by decide +kernel) rfl, tb_in (n := 554) (by decide +kernel) rfl⟩
theorem cl_L_115 : CalV RL 115 8 yX8_edge cX8_edge 8 (some .int) 1 := ⟨by decide +kernel, ⟨by decide +kernel, by decide +kernel, by decide +kernel⟩, tb_in (n := 862) (by decide +kernel) rfl, tb_in (n := 860) (by decide +kernel) rfl, tb_in (n := 861) (by decide +kernel) rfl, tb_in (n := 9) (by decide +kernel) rfl, tb_in (n := 859) (by decide +kernel) rfl⟩
theorem cl_L_116 : CalV RL 116 7 yX7_told cX7_told 2 (some .int) 1 := ⟨by decide +kernel, ⟨by decide +kernel, by decide +kernel, by decide +kernel⟩, tb_in (n := 565) (by decide +kernel) rfl, tb_in (n := 563) (by decide +kernel) rfl, tb_in (n := 564) (by decide +kernel) rfl, tb_in (n := 1) (by decide +kernel) rfl, tb_in (n := 562) (by decide +kernel) rfl⟩
theorem cl_L_119 : CalV RL 119 8 yX8_told cX8_told 2 (some .int) 1 := ⟨by decide +kernel, ⟨by decide +kernel, by decide +kernel, by decide +kernel⟩, tb_in (n := 870) (by decide +kernel) rfl, tb_in (n := 868) (by decide +kernel) rfl, tb_in (n := 869) (by decide +kernel) rfl, tb_in (n := 9) (by decide +kernel) rfl, tb_in (n := 867) (by decide +kernel) rfl⟩
def StepOK (Rel : Nat → Sg → Sg → Prop) : Prop :=
  (∀ (n : Nat) (sx sm : Sg), n < 512 → Rel n sx sm → Rel (n + 1) sx sm) ∧
  (∀ (n : Nat) (sx sm : Sg) (a0 a1 : Int32), n < 512 → Rel n sx sm → ∃ (r : Int32) (sx9 : Sg) (sm9 : Sg), X7_set a0 a1 sx = some (r, sx9) ∧ X8_set a0 a1 sm = some (r, sm9) ∧ Rel (n + 1) sx9 sm9) ∧
  (∀ (n : Nat) (sx sm : Sg) (a0 : Int32), n < 512 → Rel n sx sm → ∃ (r : Int32) (sx9 : Sg) (sm9 : Sg), X7_price a0 sx = some (r, sx9) ∧ X8_price a0 sm = some (r, sm9) ∧ Rel (n + 1) sx9 sm9) ∧
  (∀ (n : Nat) (sx sm : Sg) (a0 a1 a2 : Int32), n < 512 → Rel n sx sm → ∃ (r : Int32) (sx9 : Sg) (sm9 : Sg), X7_sort a0 a1 a2 sx = some (r, sx9) ∧ X8_sort a0 a1 a2 sm = some (r, sm9) ∧ Rel (n + 1) sx9 sm9) ∧
  (∀ (n : Nat) (sx sm : Sg) (a0 a1 a2 : Int32), n < 512 → Rel n sx sm → ∃ (r : Int32) (sx9 : Sg) (sm9 : Sg), X7_change a0 a1 a2 sx = some (r, sx9) ∧ X8_change a0 a1 a2 sm = some (r, sm9) ∧ Rel (n + 1) sx9 sm9) ∧
  (∀ (n : Nat) (sx sm : Sg) (a0 a1 : Int32), n < 512 → Rel n sx sm → ∃ (r : Int32), X7_worth a0 a1 sx = some r ∧ X8_worth a0 a1 sm = some r ∧ Rel (n + 1) sx sm) ∧
  (∀ (n : Nat) (sx sm : Sg) (a0 a1 : Int32), n < 512 → Rel n sx sm → ∃ (r : Int32) (sx9 : Sg) (sm9 : Sg), X7_plan a0 a1 sx = some (r, sx9) ∧ X8_plan a0 a1 sm = some (r, sm9) ∧ Rel (n + 1) sx9 sm9) ∧
  (∀ (n : Nat) (sx sm : Sg) (a0 : Int32), n < 512 → Rel n sx sm → ∃ (r : Int64) (sx9 : Sg) (sm9 : Sg), X7_brings a0 sx = some (r, sx9) ∧ X8_brings a0 sm = some (r, sm9) ∧ Rel (n + 1) sx9 sm9) ∧
  (∀ (n : Nat) (sx sm : Sg) (a0 a1 : Int32), n < 512 → Rel n sx sm → ∃ (r : Int64) (sx9 : Sg) (sm9 : Sg), X7_left a0 a1 sx = some (r, sx9) ∧ X8_left a0 a1 sm = some (r, sm9) ∧ Rel (n + 1) sx9 sm9) ∧
  (∀ (n : Nat) (sx sm : Sg) (a0 a1 : Int32), n < 512 → Rel n sx sm → ∃ (r : Int32) (sx9 : Sg) (sm9 : Sg), X7_best a0 a1 sx = some (r, sx9) ∧ X8_best a0 a1 sm = some (r, sm9) ∧ Rel (n + 1) sx9 sm9) ∧
  (∀ (n : Nat) (sx sm : Sg) (a0 a1 a2 : Int32), n < 512 → Rel n sx sm → ∃ (r : Int64) (sx9 : Sg) (sm9 : Sg), X7_state a0 a1 a2 sx = some (r, sx9) ∧ X8_state a0 a1 a2 sm = some (r, sm9) ∧ Rel (n + 1) sx9 sm9) ∧
  (∀ (n : Nat) (sx sm : Sg) (a0 : Int32), n < 512 → Rel n sx sm → ∃ (r : Int32) (sx9 : Sg) (sm9 : Sg), X7_dip a0 sx = some (r, sx9) ∧ X8_dip a0 sm = some (r, sm9) ∧ Rel (n + 1) sx9 sm9) ∧
  (∀ (n : Nat) (sx sm : Sg) (a0 a1 : Int32), n < 512 → Rel n sx sm → ∃ (r : Int32) (sx9 : Sg) (sm9 : Sg), X7_kept a0 a1 sx = some (r, sx9) ∧ X8_kept a0 a1 sm = some (r, sm9) ∧ Rel (n + 1) sx9 sm9) ∧
  (∀ (n : Nat) (sx sm : Sg) (a0 a1 : Int32), n < 512 → Rel n sx sm → ∃ (r : Int64) (sx9 : Sg) (sm9 : Sg), X7_keeps a0 a1 sx = some (r, sx9) ∧ X8_keeps a0 a1 sm = some (r, sm9) ∧ Rel (n + 1) sx9 sm9) ∧
  (∀ (n : Nat) (sx sm : Sg), n < 512 → Rel n sx sm → ∃ (r : Int32) (sx9 : Sg) (sm9 : Sg), X7_rather  sx = some (r, sx9) ∧ X8_rather  sm = some (r, sm9) ∧ Rel (n + 1) sx9 sm9) ∧
  (∀ (n : Nat) (sx sm : Sg) (a0 a1 : Int32), n < 512 → Rel n sx sm → ∃ (r : Int32) (sm9 : Sg), X7_picks a0 a1 sx = some r ∧ X8_picks a0 a1 sm = some (r, sm9) ∧ Rel (n + 1) sx sm9) ∧
  (∀ (n : Nat) (sx sm : Sg) (a0 : Int32), n < 512 → Rel n sx sm → ∃ (r : Int32) (sx9 : Sg) (sm9 : Sg), X7_made a0 sx = some (r, sx9) ∧ X8_made a0 sm = some (r, sm9) ∧ Rel (n + 1) sx9 sm9) ∧
  (∀ (n : Nat) (sx sm : Sg) (a0 : Int32), n < 512 → Rel n sx sm → ∃ (r : Int32) (sx9 : Sg) (sm9 : Sg), X7_say a0 sx = some (r, sx9) ∧ X8_say a0 sm = some (r, sm9) ∧ Rel (n + 1) sx9 sm9) ∧
  (∀ (n : Nat) (sx sm : Sg), n < 512 → Rel n sx sm → ∃ (r : Int32) (sx9 : Sg) (sm9 : Sg), X7_wipe  sx = some (r, sx9) ∧ X8_wipe  sm = some (r, sm9) ∧ Rel (n + 1) sx9 sm9) ∧
  (∀ (n : Nat) (sx sm : Sg), n < 512 → Rel n sx sm → ∃ (r : Int32), X7_fault  sx = some r ∧ X8_fault  sm = some r ∧ Rel (n + 1) sx sm) ∧
  (∀ (n : Nat) (sx sm : Sg), n < 512 → Rel n sx sm → ∃ (r : Int32) (sx9 : Sg) (sm9 : Sg), X7_rule  sx = some (r, sx9) ∧ X8_rule  sm = some (r, sm9) ∧ Rel (n + 1) sx9 sm9) ∧
  (∀ (n : Nat) (sx sm : Sg) (a0 a1 : Int32), n < 512 → Rel n sx sm → ∃ (r : Int32), X7_asks a0 a1 sx = some r ∧ X8_asks a0 a1 sm = some r ∧ Rel (n + 1) sx sm) ∧
  (∀ (n : Nat) (sx sm : Sg) (a0 : Int32), n < 512 → Rel n sx sm → ∃ (r : Int64) (sx9 : Sg) (sm9 : Sg), X7_boy a0 sx = some (r, sx9) ∧ X8_boy a0 sm = some (r, sm9) ∧ Rel (n + 1) sx9 sm9) ∧
  (∀ (n : Nat) (sx sm : Sg), n < 512 → Rel n sx sm → ∃ (r : Int32) (sx9 : Sg) (sm9 : Sg), X7_worst  sx = some (r, sx9) ∧ X8_worst  sm = some (r, sm9) ∧ Rel (n + 1) sx9 sm9) ∧
  (∀ (n : Nat) (sx sm : Sg) (a0 : Int32), n < 512 → Rel n sx sm → ∃ (r : Int32) (sx9 : Sg) (sm9 : Sg), X7_edge a0 sx = some (r, sx9) ∧ X8_edge a0 sm = some (r, sm9) ∧ Rel (n + 1) sx9 sm9) ∧
  (∀ (n : Nat) (sx sm : Sg) (a0 : Int32), n < 512 → Rel n sx sm → ∃ (r : Int32), X7_told a0 sx = some r ∧ X8_told a0 sm = some r ∧ Rel (n + 1) sx sm)
def H2 (gX gM : Gx) (A : Nat → Prop) (H0 : Heap) (sx sm : Sg) (H : Heap) (locs : List Loc) : Prop := Hp gX nwX (ceX gX) A H0 sx H locs ∧ Hp gM nwM (ceM gM) A H0 sm H locs ∧ ∀ i j, i < nwX → j < nwM → gX.2.1 i ≠ gM.2.1 j
theorem wdG_addr {N : Nat} {ad : Nat → Nat} {ce : Ce} {st : Sg} {k : Nat} {q : Nat × va_E} (h : (wdG N ad ce st)[k]? = some q) : k < N ∧ q.1 = ad k := by
  have hl : k < (wdG N ad ce st).length := (List.getElem?_eq_some_iff.mp h).1
  have hk : k < N := by simpa [wdG] using hl
  rw [wdG_get hk rfl] at h
  cases h
  exact ⟨hk, rfl⟩
theorem hp_keep {gA gB : Gx} {NA NB' : Nat} {cA cB : Ce} {A : Nat → Prop} {H0 H H1 : Heap} {sa sb : Sg} {locs locs1 : List Loc} (Y : Hp gB NB' cB A H0 sb H locs) (hd : ∀ i j, i < NA → j < NB' → gA.2.1 i ≠ gB.2.1 j) (hk : ∀ q : Nat, q < H.size → ¬ AW gA NA cA sa H.size q → H1[q]? = H[q]?) (hS : va_S A H0 H1 locs1) : Hp gB NB' cB A H0 sb H1 locs1 := by
  obtain ⟨hP, hD, -, hA⟩ := Y
  refine ⟨hP.kept (fun k q hq => hk q.1 (hP k q hq).lt (fun h => ?_)), hD, hS, hA⟩
  obtain ⟨hk1, hq1⟩ := wdG_addr hq
  rcases h with ⟨k2, e, h⟩ | h
  · obtain ⟨hk2, hq2⟩ := wdG_addr h
    exact hd k2 k hk2 hk1 (hq2.symm.trans hq1)
  · have := (hP k q hq).lt
    omega
section LAW
variable {p : Program} {l : Launch} {e : Env} {R : Room} {s : State} {m : MethodId} {args : Array Value} {below : List Frame} {meth : Method} {c : Code} {H H0 : Heap} {locs : List Loc} {cells slots : Nat} {Q : State → Prop}
variable {pc b L : Nat} {ls : Array Slot} {rest : List Value} {gX gM : Gx} {A : Nat → Prop} {sx sm : Sg} {xs : Nat → Int32} {i : Int32}
theorem l_cXI {As : Array Value} {r : Int32} {sx2 : Sg} {stk : List Value} (Y : H2 gX gM A H0 sx sm H locs) (hr : va_Run p l e R s m args below meth c H locs cells slots 0 0 (F0 m pc ls stk) rest (QI gX nwX (ceX gX) (AW gX nwX (ceX gX) sx H.size) r sx2 As) (AW gX nwX (ceX gX) sx H.size))
    (kk : ∀ (H1 : Heap) (locs1 : List Loc), H2 gX gM A H0 sx2 sm H1 locs1 → W p l e R s m args below meth c H1 locs1 cells slots Q (F0 m (pc + 3) ls (.int r :: rest))) : W p l e R s m args below meth c H locs cells slots Q (F0 m pc ls stk) := by
  have hF := hp_free Y.1
  refine va_calli hr Y.1.2.2.1 (fun q _ h => hF q h) hF (fun r' u t H1 locs1 ht hvm hw hB hz hk hS => ?_)
  obtain ⟨rfl, rfl⟩ := hw
  obtain ⟨hP1, hK1, hD1⟩ := hB
  rw [ht] at hP1
  exact kk H1 locs1 ⟨⟨hP1, hD1.weaken (fun _ q _ h => hF q.1 h), hS, Y.1.2.2.2⟩, hp_keep Y.2.1 Y.2.2 hk hS, Y.2.2⟩
theorem l_cXJ {As : Array Value} {r : Int64} {sx2 : Sg} {stk : List Value} (Y : H2 gX gM A H0 sx sm H locs) (hr : va_Run p l e R s m args below meth c H locs cells slots 0 0 (F0 m pc ls stk) rest (QJ gX nwX (ceX gX) (AW gX nwX (ceX gX) sx H.size) r sx2 As) (AW gX nwX (ceX gX) sx H.size))
    (kk : ∀ (H1 : Heap) (locs1 : List Loc), H2 gX gM A H0 sx2 sm H1 locs1 → W p l e R s m args below meth c H1 locs1 cells slots Q (F0 m (pc + 3) ls (.long r :: rest))) : W p l e R s m args below meth c H locs cells slots Q (F0 m pc ls stk) := by
  have hF := hp_free Y.1
  refine va_calll hr Y.1.2.2.1 (fun q _ h => hF q h) hF (fun r' u t H1 locs1 ht hvm hw hB hz hk hS => ?_)
  obtain ⟨rfl, rfl⟩ := hw
  obtain ⟨hP1, hK1, hD1⟩ := hB
  rw [ht] at hP1
  exact kk H1 locs1 ⟨⟨hP1, hD1.weaken (fun _ q _ h => hF q.1 h), hS, Y.1.2.2.2⟩, hp_keep Y.2.1 Y.2.2 hk hS, Y.2.2⟩
theorem l_cMI {As : Array Value} {r : Int32} {sm2 : Sg} {stk : List Value} (Y : H2 gX gM A H0 sx sm H locs) (hr : va_Run p l e R s m args below meth c H locs cells slots 0 0 (F0 m pc ls stk) rest (QI gM nwM (ceM gM) (AW gM nwM (ceM gM) sm H.size) r sm2 As) (AW gM nwM (ceM gM) sm H.size))
    (kk : ∀ (H1 : Heap) (locs1 : List Loc), H2 gX gM A H0 sx sm2 H1 locs1 → W p l e R s m args below meth c H1 locs1 cells slots Q (F0 m (pc + 3) ls (.int r :: rest))) : W p l e R s m args below meth c H locs cells slots Q (F0 m pc ls stk) := by
  have hF := hp_free Y.2.1
  refine va_calli hr Y.1.2.2.1 (fun q _ h => hF q h) hF (fun r' u t H1 locs1 ht hvm hw hB hz hk hS => ?_)
  obtain ⟨rfl, rfl⟩ := hw
  obtain ⟨hP1, hK1, hD1⟩ := hB
  rw [ht] at hP1
  exact kk H1 locs1 ⟨hp_keep Y.1 (fun i j hi hj h => Y.2.2 j i hj hi h.symm) hk hS, ⟨hP1, hD1.weaken (fun _ q _ h => hF q.1 h), hS, Y.2.1.2.2.2⟩, Y.2.2⟩
theorem l_cMJ {As : Array Value} {r : Int64} {sm2 : Sg} {stk : List Value} (Y : H2 gX gM A H0 sx sm H locs) (hr : va_Run p l e R s m args below meth c H locs cells slots 0 0 (F0 m pc ls stk) rest (QJ gM nwM (ceM gM) (AW gM nwM (ceM gM) sm H.size) r sm2 As) (AW gM nwM (ceM gM) sm H.size))
    (kk : ∀ (H1 : Heap) (locs1 : List Loc), H2 gX gM A H0 sx sm2 H1 locs1 → W p l e R s m args below meth c H1 locs1 cells slots Q (F0 m (pc + 3) ls (.long r :: rest))) : W p l e R s m args below meth c H locs cells slots Q (F0 m pc ls stk) := by
  have hF := hp_free Y.2.1
  refine va_calll hr Y.1.2.2.1 (fun q _ h => hF q h) hF (fun r' u t H1 locs1 ht hvm hw hB hz hk hS => ?_)
  obtain ⟨rfl, rfl⟩ := hw
  obtain ⟨hP1, hK1, hD1⟩ := hB
  rw [ht] at hP1
  exact kk H1 locs1 ⟨hp_keep Y.1 (fun i j hi hj h => Y.2.2 j i hj hi h.symm) hk hS, ⟨hP1, hD1.weaken (fun _ q _ h => hF q.1 h), hS, Y.2.1.2.2.2⟩, Y.2.2⟩
set_option maxHeartbeats 4000000 in
set_option maxRecDepth 100000 in
theorem l_case_0 (X : Cx gX p s m #[Value.ref b] meth c cL_law 4 RL ret) (X2 : Cx gM p s m #[Value.ref b] meth c cL_law 4 RL ret) (hXs : va_X b L xs s s.heap) (hbl : b < s.heap.size) (Y : H2 gX gM (fun q : Nat => s.heap.size ≤ q) s.heap sx sm H locs) (hl : lv_has ls 4 [(0, .ref b), (1, .ref (gX.2.1 0)), (2, .ref (gM.2.1 0)), (3, .int i)]) (hcs : cells ≤ room_1.cells ∧ slots ≤ room_1.slots) (i1 : vp_in (i + 1) L) (i2 : vp_in (i + 2) L) {r9 : Int32} {sx9 : Sg} {sm9 : Sg} (hX : X7_set (xs (i + 1).toNatClampNeg) (xs (i + 2).toNatClampNeg) sx = some (r9, sx9)) (hM : X8_set (xs (i + 1).toNatClampNeg) (xs (i + 2).toNatClampNeg) sm = some (r9, sm9))
    (kk : ∀ (ls : Array Slot) (H : Heap) (locs : List Loc), H2 gX gM (fun q : Nat => s.heap.size ≤ q) s.heap sx9 sm9 H locs → lv_has ls 4 [(0, .ref b), (1, .ref (gX.2.1 0)), (2, .ref (gM.2.1 0)), (3, .int i)] → W p l e room_1 s m #[Value.ref b] below meth c H locs cells slots Q (F0 m 828 ls [])) : W p l e room_1 s m #[Value.ref b] below meth c H locs cells slots Q (F0 m 148 ls []) := by
  have hx := X.1
  have hb := X.2.1
  have hbA : ¬ (fun q : Nat => s.heap.size ≤ q) b := Nat.not_le.mpr hbl
  refine lv_aload_n hx hb dL_law_148 rfl (lv_at hl 1 rfl) ?_
  refine lv_aload_n hx hb dL_law_149 rfl (lv_at hl 0 rfl) ?_
  refine lv_iload_n hx hb dL_law_150 rfl (lv_at hl 3 rfl) ?_
  refine lv_iconst (v := 1) hx hb dL_law_151 (by decide) ?_
  refine lv_iadd hx hb dL_law_152 ?_
  refine va_sld hx hb hXs hbl hbA Y.1.2.2.1 i1 dL_law_153 ?_
  refine lv_aload_n hx hb dL_law_154 rfl (lv_at hl 0 rfl) ?_
  refine lv_iload_n hx hb dL_law_155 rfl (lv_at hl 3 rfl) ?_
  refine lv_iconst (v := 2) hx hb dL_law_156 (by decide) ?_
  refine lv_iadd hx hb dL_law_157 ?_
  refine va_sld hx hb hXs hbl hbA Y.1.2.2.1 i2 dL_law_158 ?_
  refine l_cXI Y (k_runV (As := [.int (xs (i + 1).toNatClampNeg), .int (xs (i + 2).toNatClampNeg)]) (rest := []) (o := 0) X Y.1 cl_L_13 (c_X7_set l hX _) ⟨rfl, rfl, Nat.le_of_ble_eq_true rfl, Nat.le_of_ble_eq_true rfl⟩ (Nat.le_of_ble_eq_true rfl) rfl rfl hl.1 rfl (Nat.le_of_ble_eq_true rfl) dL_law_159 ⟨hcs.1, hcs.2⟩) (fun H locs Y => ?_)
  refine lv_aload_n hx hb dL_law_162 rfl (lv_at hl 2 rfl) ?_
  refine lv_aload_n hx hb dL_law_163 rfl (lv_at hl 0 rfl) ?_
  refine lv_iload_n hx hb dL_law_164 rfl (lv_at hl 3 rfl) ?_
  refine lv_iconst (v := 1) hx hb dL_law_165 (by decide) ?_
  refine lv_iadd hx hb dL_law_166 ?_
  refine va_sld hx hb hXs hbl hbA Y.1.2.2.1 i1 dL_law_167 ?_
  refine lv_aload_n hx hb dL_law_168 rfl (lv_at hl 0 rfl) ?_
  refine lv_iload_n hx hb dL_law_169 rfl (lv_at hl 3 rfl) ?_
  refine lv_iconst (v := 2) hx hb dL_law_170 (by decide) ?_
  refine lv_iadd hx hb dL_law_171 ?_
  refine va_sld hx hb hXs hbl hbA Y.1.2.2.1 i2 dL_law_172 ?_
  refine l_cMI Y (k_runV (As := [.int (xs (i + 1).toNatClampNeg), .int (xs (i + 2).toNatClampNeg)]) (rest := [.int r9]) (o := 0) X2 Y.2.1 cl_L_17 (c_X8_set l hM _) ⟨rfl, rfl, Nat.le_of_ble_eq_true rfl, Nat.le_of_ble_eq_true rfl⟩ (Nat.le_of_ble_eq_true rfl) rfl rfl hl.1 rfl (Nat.le_of_ble_eq_true rfl) dL_law_173 ⟨hcs.1, hcs.2⟩) (fun H locs Y => ?_)
  exact lv_icmp_eq (tgt := 828) hx hb dL_law_176 (by decide) (fun _ => kk _ _ _ Y hl) (fun cq => absurd rfl cq)
set_option maxHeartbeats 4000000 in
set_option maxRecDepth 100000 in
theorem l_case_1 (X : Cx gX p s m #[Value.ref b] meth c cL_law 4 RL ret) (X2 : Cx gM p s m #[Value.ref b] meth c cL_law 4 RL ret) (hXs : va_X b L xs s s.heap) (hbl : b < s.heap.size) (Y : H2 gX gM (fun q : Nat => s.heap.size ≤ q) s.heap sx sm H locs) (hl : lv_has ls 4 [(0, .ref b), (1, .ref (gX.2.1 0)), (2, .ref (gM.2.1 0)), (3, .int i)]) (hcs : cells ≤ room_1.cells ∧ slots ≤ room_1.slots) (i1 : vp_in (i + 1) L) {r9 : Int32} {sx9 : Sg} {sm9 : Sg} (hX : X7_price (xs (i + 1).toNatClampNeg) sx = some (r9, sx9)) (hM : X8_price (xs (i + 1).toNatClampNeg) sm = some (r9, sm9))
    (kk : ∀ (ls : Array Slot) (H : Heap) (locs : List Loc), H2 gX gM (fun q : Nat => s.heap.size ≤ q) s.heap sx9 sm9 H locs → lv_has ls 4 [(0, .ref b), (1, .ref (gX.2.1 0)), (2, .ref (gM.2.1 0)), (3, .int i)] → W p l e room_1 s m #[Value.ref b] below meth c H locs cells slots Q (F0 m 828 ls [])) : W p l e room_1 s m #[Value.ref b] below meth c H locs cells slots Q (F0 m 181 ls []) := by
  have hx := X.1
  have hb := X.2.1
  have hbA : ¬ (fun q : Nat => s.heap.size ≤ q) b := Nat.not_le.mpr hbl
  refine lv_aload_n hx hb dL_law_181 rfl (lv_at hl 1 rfl) ?_
  refine lv_aload_n hx hb dL_law_182 rfl (lv_at hl 0 rfl) ?_
  refine lv_iload_n hx hb dL_law_183 rfl (lv_at hl 3 rfl) ?_
  refine lv_iconst (v := 1) hx hb dL_law_184 (by decide) ?_
  refine lv_iadd hx hb dL_law_185 ?_
  refine va_sld hx hb hXs hbl hbA Y.1.2.2.1 i1 dL_law_186 ?_
  refine l_cXI Y (k_runV (As := [.int (xs (i + 1).toNatClampNeg)]) (rest := []) (o := 0) X Y.1 cl_L_18 (c_X7_price l hX _) ⟨rfl, rfl, Nat.le_of_ble_eq_true rfl, Nat.le_of_ble_eq_true rfl⟩ (Nat.le_of_ble_eq_true rfl) rfl rfl hl.1 rfl (Nat.le_of_ble_eq_true rfl) dL_law_187 ⟨hcs.1, hcs.2⟩) (fun H locs Y => ?_)
  refine lv_aload_n hx hb dL_law_190 rfl (lv_at hl 2 rfl) ?_
  refine lv_aload_n hx hb dL_law_191 rfl (lv_at hl 0 rfl) ?_
  refine lv_iload_n hx hb dL_law_192 rfl (lv_at hl 3 rfl) ?_
  refine lv_iconst (v := 1) hx hb dL_law_193 (by decide) ?_
  refine lv_iadd hx hb dL_law_194 ?_
  refine va_sld hx hb hXs hbl hbA Y.1.2.2.1 i1 dL_law_195 ?_
  refine l_cMI Y (k_runV (As := [.int (xs (i + 1).toNatClampNeg)]) (rest := [.int r9]) (o := 0) X2 Y.2.1 cl_L_22 (c_X8_price l hM _) ⟨rfl, rfl, Nat.le_of_ble_eq_true rfl, Nat.le_of_ble_eq_true rfl⟩ (Nat.le_of_ble_eq_true rfl) rfl rfl hl.1 rfl (Nat.le_of_ble_eq_true rfl) dL_law_196 ⟨hcs.1, hcs.2⟩) (fun H locs Y => ?_)
  exact lv_icmp_eq (tgt := 828) hx hb dL_law_199 (by decide) (fun _ => kk _ _ _ Y hl) (fun cq => absurd rfl cq)
set_option maxHeartbeats 4000000 in
set_option maxRecDepth 100000 in
theorem l_case_2 (X : Cx gX p s m #[Value.ref b] meth c cL_law 4 RL ret) (X2 : Cx gM p s m #[Value.ref b] meth c cL_law 4 RL ret) (hXs : va_X b L xs s s.heap) (hbl : b < s.heap.size) (Y : H2 gX gM (fun q : Nat => s.heap.size ≤ q) s.heap sx sm H locs) (hl : lv_has ls 4 [(0, .ref b), (1, .ref (gX.2.1 0)), (2, .ref (gM.2.1 0)), (3, .int i)]) (hcs : cells ≤ room_1.cells ∧ slots ≤ room_1.slots) (i1 : vp_in (i + 1) L) (i2 : vp_in (i + 2) L) (i3 : vp_in (i + 3) L) {r9 : Int32} {sx9 : Sg} {sm9 : Sg} (hX : X7_sort (xs (i + 1).toNatClampNeg) (xs (i + 2).toNatClampNeg) (xs (i + 3).toNatClampNeg) sx = some (r9, sx9)) (hM : X8_sort (xs (i + 1).toNatClampNeg) (xs (i + 2).toNatClampNeg) (xs (i + 3).toNatClampNeg) sm = some (r9, sm9))
    (kk : ∀ (ls : Array Slot) (H : Heap) (locs : List Loc), H2 gX gM (fun q : Nat => s.heap.size ≤ q) s.heap sx9 sm9 H locs → lv_has ls 4 [(0, .ref b), (1, .ref (gX.2.1 0)), (2, .ref (gM.2.1 0)), (3, .int i)] → W p l e room_1 s m #[Value.ref b] below meth c H locs cells slots Q (F0 m 828 ls [])) : W p l e room_1 s m #[Value.ref b] below meth c H locs cells slots Q (F0 m 204 ls []) := by
  have hx := X.1
  have hb := X.2.1
  have hbA : ¬ (fun q : Nat => s.heap.size ≤ q) b := Nat.not_le.mpr hbl
  refine lv_aload_n hx hb dL_law_204 rfl (lv_at hl 1 rfl) ?_
  refine lv_aload_n hx hb dL_law_205 rfl (lv_at hl 0 rfl) ?_
  refine lv_iload_n hx hb dL_law_206 rfl (lv_at hl 3 rfl) ?_
  refine lv_iconst (v := 1) hx hb dL_law_207 (by decide) ?_
  refine lv_iadd hx hb dL_law_208 ?_
  refine va_sld hx hb hXs hbl hbA Y.1.2.2.1 i1 dL_law_209 ?_
  refine lv_aload_n hx hb dL_law_210 rfl (lv_at hl 0 rfl) ?_
  refine lv_iload_n hx hb dL_law_211 rfl (lv_at hl 3 rfl) ?_
  refine lv_iconst (v := 2) hx hb dL_law_212 (by decide) ?_
  refine lv_iadd hx hb dL_law_213 ?_
  refine va_sld hx hb hXs hbl hbA Y.1.2.2.1 i2 dL_law_214 ?_
  refine lv_aload_n hx hb dL_law_215 rfl (lv_at hl 0 rfl) ?_
  refine lv_iload_n hx hb dL_law_216 rfl (lv_at hl 3 rfl) ?_
  refine lv_iconst (v := 3) hx hb dL_law_217 (by decide) ?_
  refine lv_iadd hx hb dL_law_218 ?_
  refine va_sld hx hb hXs hbl hbA Y.1.2.2.1 i3 dL_law_219 ?_
  refine l_cXI Y (k_runV (As := [.int (xs (i + 1).toNatClampNeg), .int (xs (i + 2).toNatClampNeg), .int (xs (i + 3).toNatClampNeg)]) (rest := []) (o := 0) X Y.1 cl_L_23 (c_X7_sort l hX _) ⟨rfl, rfl, Nat.le_of_ble_eq_true rfl, Nat.le_of_ble_eq_true rfl⟩ (Nat.le_of_ble_eq_true rfl) rfl rfl hl.1 rfl (Nat.le_of_ble_eq_true rfl) dL_law_220 ⟨hcs.1, hcs.2⟩) (fun H locs Y => ?_)
  refine lv_aload_n hx hb dL_law_223 rfl (lv_at hl 2 rfl) ?_
  refine lv_aload_n hx hb dL_law_224 rfl (lv_at hl 0 rfl) ?_
  refine lv_iload_n hx hb dL_law_225 rfl (lv_at hl 3 rfl) ?_
  refine lv_iconst (v := 1) hx hb dL_law_226 (by decide) ?_
  refine lv_iadd hx hb dL_law_227 ?_
  refine va_sld hx hb hXs hbl hbA Y.1.2.2.1 i1 dL_law_228 ?_
  refine lv_aload_n hx hb dL_law_229 rfl (lv_at hl 0 rfl) ?_
  refine lv_iload_n hx hb dL_law_230 rfl (lv_at hl 3 rfl) ?_
  refine lv_iconst (v := 2) hx hb dL_law_231 (by decide) ?_
  refine lv_iadd hx hb dL_law_232 ?_
  refine va_sld hx hb hXs hbl hbA Y.1.2.2.1 i2 dL_law_233 ?_
  refine lv_aload_n hx hb dL_law_234 rfl (lv_at hl 0 rfl) ?_
  refine lv_iload_n hx hb dL_law_235 rfl (lv_at hl 3 rfl) ?_
  refine lv_iconst (v := 3) hx hb dL_law_236 (by decide) ?_
  refine lv_iadd hx hb dL_law_237 ?_
  refine va_sld hx hb hXs hbl hbA Y.1.2.2.1 i3 dL_law_238 ?_
  refine l_cMI Y (k_runV (As := [.int (xs (i + 1).toNatClampNeg), .int (xs (i + 2).toNatClampNeg), .int (xs (i + 3).toNatClampNeg)]) (rest := [.int r9]) (o := 0) X2 Y.2.1 cl_L_27 (c_X8_sort l hM _) ⟨rfl, rfl, Nat.le_of_ble_eq_true rfl, Nat.le_of_ble_eq_true rfl⟩ (Nat.le_of_ble_eq_true rfl) rfl rfl hl.1 rfl (Nat.le_of_ble_eq_true rfl) dL_law_239 ⟨hcs.1, hcs.2⟩) (fun H locs Y => ?_)
  exact lv_icmp_eq (tgt := 828) hx hb dL_law_242 (by decide) (fun _ => kk _ _ _ Y hl) (fun cq => absurd rfl cq)
set_option maxHeartbeats 4000000 in
set_option maxRecDepth 100000 in
theorem l_case_3 (X : Cx gX p s m #[Value.ref b] meth c cL_law 4 RL ret) (X2 : Cx gM p s m #[Value.ref b] meth c cL_law 4 RL ret) (hXs : va_X b L xs s s.heap) (hbl : b < s.heap.size) (Y : H2 gX gM (fun q : Nat => s.heap.size ≤ q) s.heap sx sm H locs) (hl : lv_has ls 4 [(0, .ref b), (1, .ref (gX.2.1 0)), (2, .ref (gM.2.1 0)), (3, .int i)]) (hcs : cells ≤ room_1.cells ∧ slots ≤ room_1.slots) (i1 : vp_in (i + 1) L) (i2 : vp_in (i + 2) L) (i3 : vp_in (i + 3) L) {r9 : Int32} {sx9 : Sg} {sm9 : Sg} (hX : X7_change (xs (i + 1).toNatClampNeg) (xs (i + 2).toNatClampNeg) (xs (i + 3).toNatClampNeg) sx = some (r9, sx9)) (hM : X8_change (xs (i + 1).toNatClampNeg) (xs (i + 2).toNatClampNeg) (xs (i + 3).toNatClampNeg) sm = some (r9, sm9))
    (kk : ∀ (ls : Array Slot) (H : Heap) (locs : List Loc), H2 gX gM (fun q : Nat => s.heap.size ≤ q) s.heap sx9 sm9 H locs → lv_has ls 4 [(0, .ref b), (1, .ref (gX.2.1 0)), (2, .ref (gM.2.1 0)), (3, .int i)] → W p l e room_1 s m #[Value.ref b] below meth c H locs cells slots Q (F0 m 828 ls [])) : W p l e room_1 s m #[Value.ref b] below meth c H locs cells slots Q (F0 m 247 ls []) := by
  have hx := X.1
  have hb := X.2.1
  have hbA : ¬ (fun q : Nat => s.heap.size ≤ q) b := Nat.not_le.mpr hbl
  refine lv_aload_n hx hb dL_law_247 rfl (lv_at hl 1 rfl) ?_
  refine lv_aload_n hx hb dL_law_248 rfl (lv_at hl 0 rfl) ?_
  refine lv_iload_n hx hb dL_law_249 rfl (lv_at hl 3 rfl) ?_
  refine lv_iconst (v := 1) hx hb dL_law_250 (by decide) ?_
  refine lv_iadd hx hb dL_law_251 ?_
  refine va_sld hx hb hXs hbl hbA Y.1.2.2.1 i1 dL_law_252 ?_
  refine lv_aload_n hx hb dL_law_253 rfl (lv_at hl 0 rfl) ?_
  refine lv_iload_n hx hb dL_law_254 rfl (lv_at hl 3 rfl) ?_
  refine lv_iconst (v := 2) hx hb dL_law_255 (by decide) ?_
  refine lv_iadd hx hb dL_law_256 ?_
  refine va_sld hx hb hXs hbl hbA Y.1.2.2.1 i2 dL_law_257 ?_
  refine lv_aload_n hx hb dL_law_258 rfl (lv_at hl 0 rfl) ?_
  refine lv_iload_n hx hb dL_law_259 rfl (lv_at hl 3 rfl) ?_
  refine lv_iconst (v := 3) hx hb dL_law_260 (by decide) ?_
  refine lv_iadd hx hb dL_law_261 ?_
  refine va_sld hx hb hXs hbl hbA Y.1.2.2.1 i3 dL_law_262 ?_
  refine l_cXI Y (k_runV (As := [.int (xs (i + 1).toNatClampNeg), .int (xs (i + 2).toNatClampNeg), .int (xs (i + 3).toNatClampNeg)]) (rest := []) (o := 0) X Y.1 cl_L_28 (c_X7_change l hX _) ⟨rfl, rfl, Nat.le_of_ble_eq_true rfl, Nat.le_of_ble_eq_true rfl⟩ (Nat.le_of_ble_eq_true rfl) rfl rfl hl.1 rfl (Nat.le_of_ble_eq_true rfl) dL_law_263 ⟨hcs.1, hcs.2⟩) (fun H locs Y => ?_)
  refine lv_aload_n hx hb dL_law_266 rfl (lv_at hl 2 rfl) ?_
  refine lv_aload_n hx hb dL_law_267 rfl (lv_at hl 0 rfl) ?_
  refine lv_iload_n hx hb dL_law_268 rfl (lv_at hl 3 rfl) ?_
  refine lv_iconst (v := 1) hx hb dL_law_269 (by decide) ?_
  refine lv_iadd hx hb dL_law_270 ?_
  refine va_sld hx hb hXs hbl hbA Y.1.2.2.1 i1 dL_law_271 ?_
  refine lv_aload_n hx hb dL_law_272 rfl (lv_at hl 0 rfl) ?_
  refine lv_iload_n hx hb dL_law_273 rfl (lv_at hl 3 rfl) ?_
  refine lv_iconst (v := 2) hx hb dL_law_274 (by decide) ?_
  refine lv_iadd hx hb dL_law_275 ?_
  refine va_sld hx hb hXs hbl hbA Y.1.2.2.1 i2 dL_law_276 ?_
  refine lv_aload_n hx hb dL_law_277 rfl (lv_at hl 0 rfl) ?_
  refine lv_iload_n hx hb dL_law_278 rfl (lv_at hl 3 rfl) ?_
  refine lv_iconst (v := 3) hx hb dL_law_279 (by decide) ?_
  refine lv_iadd hx hb dL_law_280 ?_
  refine va_sld hx hb hXs hbl hbA Y.1.2.2.1 i3 dL_law_281 ?_
  refine l_cMI Y (k_runV (As := [.int (xs (i + 1).toNatClampNeg), .int (xs (i + 2).toNatClampNeg), .int (xs (i + 3).toNatClampNeg)]) (rest := [.int r9]) (o := 0) X2 Y.2.1 cl_L_31 (c_X8_change l hM _) ⟨rfl, rfl, Nat.le_of_ble_eq_true rfl, Nat.le_of_ble_eq_true rfl⟩ (Nat.le_of_ble_eq_true rfl) rfl rfl hl.1 rfl (Nat.le_of_ble_eq_true rfl) dL_law_282 ⟨hcs.1, hcs.2⟩) (fun H locs Y => ?_)
  exact lv_icmp_eq (tgt := 828) hx hb dL_law_285 (by decide) (fun _ => kk _ _ _ Y hl) (fun cq => absurd rfl cq)
set_option maxHeartbeats 4000000 in
set_option maxRecDepth 100000 in
theorem l_case_4 (X : Cx gX p s m #[Value.ref b] meth c cL_law 4 RL ret) (X2 : Cx gM p s m #[Value.ref b] meth c cL_law 4 RL ret) (hXs : va_X b L xs s s.heap) (hbl : b < s.heap.size) (Y : H2 gX gM (fun q : Nat => s.heap.size ≤ q) s.heap sx sm H locs) (hl : lv_has ls 4 [(0, .ref b), (1, .ref (gX.2.1 0)), (2, .ref (gM.2.1 0)), (3, .int i)]) (hcs : cells ≤ room_1.cells ∧ slots ≤ room_1.slots) (i1 : vp_in (i + 1) L) (i2 : vp_in (i + 2) L) {r9 : Int32}  (hX : X7_worth (xs (i + 1).toNatClampNeg) (xs (i + 2).toNatClampNeg) sx = some r9) (hM : X8_worth (xs (i + 1).toNatClampNeg) (xs (i + 2).toNatClampNeg) sm = some r9)
    (kk : ∀ (ls : Array Slot) (H : Heap) (locs : List Loc), H2 gX gM (fun q : Nat => s.heap.size ≤ q) s.heap sx sm H locs → lv_has ls 4 [(0, .ref b), (1, .ref (gX.2.1 0)), (2, .ref (gM.2.1 0)), (3, .int i)] → W p l e room_1 s m #[Value.ref b] below meth c H locs cells slots Q (F0 m 828 ls [])) : W p l e room_1 s m #[Value.ref b] below meth c H locs cells slots Q (F0 m 290 ls []) := by
  have hx := X.1
  have hb := X.2.1
  have hbA : ¬ (fun q : Nat => s.heap.size ≤ q) b := Nat.not_le.mpr hbl
  refine lv_aload_n hx hb dL_law_290 rfl (lv_at hl 1 rfl) ?_
  refine lv_aload_n hx hb dL_law_291 rfl (lv_at hl 0 rfl) ?_
  refine lv_iload_n hx hb dL_law_292 rfl (lv_at hl 3 rfl) ?_
  refine lv_iconst (v := 1) hx hb dL_law_293 (by decide) ?_
  refine lv_iadd hx hb dL_law_294 ?_
  refine va_sld hx hb hXs hbl hbA Y.1.2.2.1 i1 dL_law_295 ?_
  refine lv_aload_n hx hb dL_law_296 rfl (lv_at hl 0 rfl) ?_
  refine lv_iload_n hx hb dL_law_297 rfl (lv_at hl 3 rfl) ?_
  refine lv_iconst (v := 2) hx hb dL_law_298 (by decide) ?_
  refine lv_iadd hx hb dL_law_299 ?_
  refine va_sld hx hb hXs hbl hbA Y.1.2.2.1 i2 dL_law_300 ?_
  refine l_cXI Y (k_runV (As := [.int (xs (i + 1).toNatClampNeg), .int (xs (i + 2).toNatClampNeg)]) (rest := []) (o := 0) X Y.1 cl_L_32 (c_X7_worth l hX _) ⟨rfl, rfl, Nat.le_of_ble_eq_true rfl, Nat.le_of_ble_eq_true rfl⟩ (Nat.le_of_ble_eq_true rfl) rfl rfl hl.1 rfl (Nat.le_of_ble_eq_true rfl) dL_law_301 ⟨hcs.1, hcs.2⟩) (fun H locs Y => ?_)
  refine lv_aload_n hx hb dL_law_304 rfl (lv_at hl 2 rfl) ?_
  refine lv_aload_n hx hb dL_law_305 rfl (lv_at hl 0 rfl) ?_
  refine lv_iload_n hx hb dL_law_306 rfl (lv_at hl 3 rfl) ?_
  refine lv_iconst (v := 1) hx hb dL_law_307 (by decide) ?_
  refine lv_iadd hx hb dL_law_308 ?_
  refine va_sld hx hb hXs hbl hbA Y.1.2.2.1 i1 dL_law_309 ?_
  refine lv_aload_n hx hb dL_law_310 rfl (lv_at hl 0 rfl) ?_
  refine lv_iload_n hx hb dL_law_311 rfl (lv_at hl 3 rfl) ?_
  refine lv_iconst (v := 2) hx hb dL_law_312 (by decide) ?_
  refine lv_iadd hx hb dL_law_313 ?_
  refine va_sld hx hb hXs hbl hbA Y.1.2.2.1 i2 dL_law_314 ?_
  refine l_cMI Y (k_runV (As := [.int (xs (i + 1).toNatClampNeg), .int (xs (i + 2).toNatClampNeg)]) (rest := [.int r9]) (o := 0) X2 Y.2.1 cl_L_35 (c_X8_worth l hM _) ⟨rfl, rfl, Nat.le_of_ble_eq_true rfl, Nat.le_of_ble_eq_true rfl⟩ (Nat.le_of_ble_eq_true rfl) rfl rfl hl.1 rfl (Nat.le_of_ble_eq_true rfl) dL_law_315 ⟨hcs.1, hcs.2⟩) (fun H locs Y => ?_)
  exact lv_icmp_eq (tgt := 828) hx hb dL_law_318 (by decide) (fun _ => kk _ _ _ Y hl) (fun cq => absurd rfl cq)
set_option maxHeartbeats 4000000 in
set_option maxRecDepth 100000 in
theorem l_case_5 (X : Cx gX p s m #[Value.ref b] meth c cL_law 4 RL ret) (X2 : Cx gM p s m #[Value.ref b] meth c cL_law 4 RL ret) (hXs : va_X b L xs s s.heap) (hbl : b < s.heap.size) (Y : H2 gX gM (fun q : Nat => s.heap.size ≤ q) s.heap sx sm H locs) (hl : lv_has ls 4 [(0, .ref b), (1, .ref (gX.2.1 0)), (2, .ref (gM.2.1 0)), (3, .int i)]) (hcs : cells ≤ room_1.cells ∧ slots ≤ room_1.slots) (i1 : vp_in (i + 1) L) (i2 : vp_in (i + 2) L) {r9 : Int32} {sx9 : Sg} {sm9 : Sg} (hX : X7_plan (xs (i + 1).toNatClampNeg) (xs (i + 2).toNatClampNeg) sx = some (r9, sx9)) (hM : X8_plan (xs (i + 1).toNatClampNeg) (xs (i + 2).toNatClampNeg) sm = some (r9, sm9))
    (kk : ∀ (ls : Array Slot) (H : Heap) (locs : List Loc), H2 gX gM (fun q : Nat => s.heap.size ≤ q) s.heap sx9 sm9 H locs → lv_has ls 4 [(0, .ref b), (1, .ref (gX.2.1 0)), (2, .ref (gM.2.1 0)), (3, .int i)] → W p l e room_1 s m #[Value.ref b] below meth c H locs cells slots Q (F0 m 828 ls [])) : W p l e room_1 s m #[Value.ref b] below meth c H locs cells slots Q (F0 m 323 ls []) := by
  have hx := X.1
  have hb := X.2.1
  have hbA : ¬ (fun q : Nat => s.heap.size ≤ q) b := Nat.not_le.mpr hbl
  refine lv_aload_n hx hb dL_law_323 rfl (lv_at hl 1 rfl) ?_
  refine lv_aload_n hx hb dL_law_324 rfl (lv_at hl 0 rfl) ?_
  refine lv_iload_n hx hb dL_law_325 rfl (lv_at hl 3 rfl) ?_
  refine lv_iconst (v := 1) hx hb dL_law_326 (by decide) ?_
  refine lv_iadd hx hb dL_law_327 ?_
  refine va_sld hx hb hXs hbl hbA Y.1.2.2.1 i1 dL_law_328 ?_
  refine lv_aload_n hx hb dL_law_329 rfl (lv_at hl 0 rfl) ?_
  refine lv_iload_n hx hb dL_law_330 rfl (lv_at hl 3 rfl) ?_
  refine lv_iconst (v := 2) hx hb dL_law_331 (by decide) ?_
  refine lv_iadd hx hb dL_law_332 ?_
  refine va_sld hx hb hXs hbl hbA Y.1.2.2.1 i2 dL_law_333 ?_
  refine l_cXI Y (k_runV (As := [.int (xs (i + 1).toNatClampNeg), .int (xs (i + 2).toNatClampNeg)]) (rest := []) (o := 0) X Y.1 cl_L_36 (c_X7_plan l hX _) ⟨rfl, rfl, Nat.le_of_ble_eq_true rfl, Nat.le_of_ble_eq_true rfl⟩ (Nat.le_of_ble_eq_true rfl) rfl rfl hl.1 rfl (Nat.le_of_ble_eq_true rfl) dL_law_334 ⟨hcs.1, hcs.2⟩) (fun H locs Y => ?_)
  refine lv_aload_n hx hb dL_law_337 rfl (lv_at hl 2 rfl) ?_
  refine lv_aload_n hx hb dL_law_338 rfl (lv_at hl 0 rfl) ?_
  refine lv_iload_n hx hb dL_law_339 rfl (lv_at hl 3 rfl) ?_
  refine lv_iconst (v := 1) hx hb dL_law_340 (by decide) ?_
  refine lv_iadd hx hb dL_law_341 ?_
  refine va_sld hx hb hXs hbl hbA Y.1.2.2.1 i1 dL_law_342 ?_
  refine lv_aload_n hx hb dL_law_343 rfl (lv_at hl 0 rfl) ?_
  refine lv_iload_n hx hb dL_law_344 rfl (lv_at hl 3 rfl) ?_
  refine lv_iconst (v := 2) hx hb dL_law_345 (by decide) ?_
  refine lv_iadd hx hb dL_law_346 ?_
  refine va_sld hx hb hXs hbl hbA Y.1.2.2.1 i2 dL_law_347 ?_
  refine l_cMI Y (k_runV (As := [.int (xs (i + 1).toNatClampNeg), .int (xs (i + 2).toNatClampNeg)]) (rest := [.int r9]) (o := 0) X2 Y.2.1 cl_L_39 (c_X8_plan l hM _) ⟨rfl, rfl, Nat.le_of_ble_eq_true rfl, Nat.le_of_ble_eq_true rfl⟩ (Nat.le_of_ble_eq_true rfl) rfl rfl hl.1 rfl (Nat.le_of_ble_eq_true rfl) dL_law_348 ⟨hcs.1, hcs.2⟩) (fun H locs Y => ?_)
  exact lv_icmp_eq (tgt := 828) hx hb dL_law_351 (by decide) (fun _ => kk _ _ _ Y hl) (fun cq => absurd rfl cq)
set_option maxHeartbeats 4000000 in
set_option maxRecDepth 100000 in
theorem l_case_6 (X : Cx gX p s m #[Value.ref b] meth c cL_law 4 RL ret) (X2 : Cx gM p s m #[Value.ref b] meth c cL_law 4 RL ret) (hXs : va_X b L xs s s.heap) (hbl : b < s.heap.size) (Y : H2 gX gM (fun q : Nat => s.heap.size ≤ q) s.heap sx sm H locs) (hl : lv_has ls 4 [(0, .ref b), (1, .ref (gX.2.1 0)), (2, .ref (gM.2.1 0)), (3, .int i)]) (hcs : cells ≤ room_1.cells ∧ slots ≤ room_1.slots) (i1 : vp_in (i + 1) L) {r9 : Int64} {sx9 : Sg} {sm9 : Sg} (hX : X7_brings (xs (i + 1).toNatClampNeg) sx = some (r9, sx9)) (hM : X8_brings (xs (i + 1).toNatClampNeg) sm = some (r9, sm9))
    (kk : ∀ (ls : Array Slot) (H : Heap) (locs : List Loc), H2 gX gM (fun q : Nat => s.heap.size ≤ q) s.heap sx9 sm9 H locs → lv_has ls 4 [(0, .ref b), (1, .ref (gX.2.1 0)), (2, .ref (gM.2.1 0)), (3, .int i)] → W p l e room_1 s m #[Value.ref b] below meth c H locs cells slots Q (F0 m 828 ls [])) : W p l e room_1 s m #[Value.ref b] below meth c H locs cells slots Q (F0 m 356 ls []) := by
  have hx := X.1
  have hb := X.2.1
  have hbA : ¬ (fun q : Nat => s.heap.size ≤ q) b := Nat.not_le.mpr hbl
  refine lv_aload_n hx hb dL_law_356 rfl (lv_at hl 1 rfl) ?_
  refine lv_aload_n hx hb dL_law_357 rfl (lv_at hl 0 rfl) ?_
  refine lv_iload_n hx hb dL_law_358 rfl (lv_at hl 3 rfl) ?_
  refine lv_iconst (v := 1) hx hb dL_law_359 (by decide) ?_
  refine lv_iadd hx hb dL_law_360 ?_
  refine va_sld hx hb hXs hbl hbA Y.1.2.2.1 i1 dL_law_361 ?_
  refine l_cXJ Y (k_runV (As := [.int (xs (i + 1).toNatClampNeg)]) (rest := []) (o := 0) X Y.1 cl_L_40 (c_X7_brings l hX _) ⟨rfl, rfl, Nat.le_of_ble_eq_true rfl, Nat.le_of_ble_eq_true rfl⟩ (Nat.le_of_ble_eq_true rfl) rfl rfl hl.1 rfl (Nat.le_of_ble_eq_true rfl) dL_law_362 ⟨hcs.1, hcs.2⟩) (fun H locs Y => ?_)
  refine lv_aload_n hx hb dL_law_365 rfl (lv_at hl 2 rfl) ?_
  refine lv_aload_n hx hb dL_law_366 rfl (lv_at hl 0 rfl) ?_
  refine lv_iload_n hx hb dL_law_367 rfl (lv_at hl 3 rfl) ?_
  refine lv_iconst (v := 1) hx hb dL_law_368 (by decide) ?_
  refine lv_iadd hx hb dL_law_369 ?_
  refine va_sld hx hb hXs hbl hbA Y.1.2.2.1 i1 dL_law_370 ?_
  refine l_cMJ Y (k_runV (As := [.int (xs (i + 1).toNatClampNeg)]) (rest := [.long r9]) (o := 0) X2 Y.2.1 cl_L_44 (c_X8_brings l hM _) ⟨rfl, rfl, Nat.le_of_ble_eq_true rfl, Nat.le_of_ble_eq_true rfl⟩ (Nat.le_of_ble_eq_true rfl) rfl rfl hl.1 rfl (Nat.le_of_ble_eq_true rfl) dL_law_371 ⟨hcs.1, hcs.2⟩) (fun H locs Y => ?_)
  refine W.lcmp hx hb dL_law_374 ?_
  exact lv_if_eq (tgt := 828) hx hb dL_law_375 (by decide) (fun _ => kk _ _ _ Y hl) (fun cq => absurd (by simp [lg_cmp]) cq)
set_option maxHeartbeats 4000000 in
set_option maxRecDepth 100000 in
theorem l_case_7 (X : Cx gX p s m #[Value.ref b] meth c cL_law 4 RL ret) (X2 : Cx gM p s m #[Value.ref b] meth c cL_law 4 RL ret) (hXs : va_X b L xs s s.heap) (hbl : b < s.heap.size) (Y : H2 gX gM (fun q : Nat => s.heap.size ≤ q) s.heap sx sm H locs) (hl : lv_has ls 4 [(0, .ref b), (1, .ref (gX.2.1 0)), (2, .ref (gM.2.1 0)), (3, .int i)]) (hcs : cells ≤ room_1.cells ∧ slots ≤ room_1.slots) (i1 : vp_in (i + 1) L) (i2 : vp_in (i + 2) L) {r9 : Int64} {sx9 : Sg} {sm9 : Sg} (hX : X7_left (xs (i + 1).toNatClampNeg) (xs (i + 2).toNatClampNeg) sx = some (r9, sx9)) (hM : X8_left (xs (i + 1).toNatClampNeg) (xs (i + 2).toNatClampNeg) sm = some (r9, sm9))
    (kk : ∀ (ls : Array Slot) (H : Heap) (locs : List Loc), H2 gX gM (fun q : Nat => s.heap.size ≤ q) s.heap sx9 sm9 H locs → lv_has ls 4 [(0, .ref b), (1, .ref (gX.2.1 0)), (2, .ref (gM.2.1 0)), (3, .int i)] → W p l e room_1 s m #[Value.ref b] below meth c H locs cells slots Q (F0 m 828 ls [])) : W p l e room_1 s m #[Value.ref b] below meth c H locs cells slots Q (F0 m 380 ls []) := by
  have hx := X.1
  have hb := X.2.1
  have hbA : ¬ (fun q : Nat => s.heap.size ≤ q) b := Nat.not_le.mpr hbl
  refine lv_aload_n hx hb dL_law_380 rfl (lv_at hl 1 rfl) ?_
  refine lv_aload_n hx hb dL_law_381 rfl (lv_at hl 0 rfl) ?_
  refine lv_iload_n hx hb dL_law_382 rfl (lv_at hl 3 rfl) ?_
  refine lv_iconst (v := 1) hx hb dL_law_383 (by decide) ?_
  refine lv_iadd hx hb dL_law_384 ?_
  refine va_sld hx hb hXs hbl hbA Y.1.2.2.1 i1 dL_law_385 ?_
  refine lv_aload_n hx hb dL_law_386 rfl (lv_at hl 0 rfl) ?_
  refine lv_iload_n hx hb dL_law_387 rfl (lv_at hl 3 rfl) ?_
  refine lv_iconst (v := 2) hx hb dL_law_388 (by decide) ?_
  refine lv_iadd hx hb dL_law_389 ?_
  refine va_sld hx hb hXs hbl hbA Y.1.2.2.1 i2 dL_law_390 ?_
  refine l_cXJ Y (k_runV (As := [.int (xs (i + 1).toNatClampNeg), .int (xs (i + 2).toNatClampNeg)]) (rest := []) (o := 0) X Y.1 cl_L_45 (c_X7_left l hX _) ⟨rfl, rfl, Nat.le_of_ble_eq_true rfl, Nat.le_of_ble_eq_true rfl⟩ (Nat.le_of_ble_eq_true rfl) rfl rfl hl.1 rfl (Nat.le_of_ble_eq_true rfl) dL_law_391 ⟨hcs.1, hcs.2⟩) (fun H locs Y => ?_)
  refine lv_aload_n hx hb dL_law_394 rfl (lv_at hl 2 rfl) ?_
  refine lv_aload_n hx hb dL_law_395 rfl (lv_at hl 0 rfl) ?_
  refine lv_iload_n hx hb dL_law_396 rfl (lv_at hl 3 rfl) ?_
  refine lv_iconst (v := 1) hx hb dL_law_397 (by decide) ?_
  refine lv_iadd hx hb dL_law_398 ?_
  refine va_sld hx hb hXs hbl hbA Y.1.2.2.1 i1 dL_law_399 ?_
  refine lv_aload_n hx hb dL_law_400 rfl (lv_at hl 0 rfl) ?_
  refine lv_iload_n hx hb dL_law_401 rfl (lv_at hl 3 rfl) ?_
  refine lv_iconst (v := 2) hx hb dL_law_402 (by decide) ?_
  refine lv_iadd hx hb dL_law_403 ?_
  refine va_sld hx hb hXs hbl hbA Y.1.2.2.1 i2 dL_law_404 ?_
  refine l_cMJ Y (k_runV (As := [.int (xs (i + 1).toNatClampNeg), .int (xs (i + 2).toNatClampNeg)]) (rest := [.long r9]) (o := 0) X2 Y.2.1 cl_L_49 (c_X8_left l hM _) ⟨rfl, rfl, Nat.le_of_ble_eq_true rfl, Nat.le_of_ble_eq_true rfl⟩ (Nat.le_of_ble_eq_true rfl) rfl rfl hl.1 rfl (Nat.le_of_ble_eq_true rfl) dL_law_405 ⟨hcs.1, hcs.2⟩) (fun H locs Y => ?_)
  refine W.lcmp hx hb dL_law_408 ?_
  exact lv_if_eq (tgt := 828) hx hb dL_law_409 (by decide) (fun _ => kk _ _ _ Y hl) (fun cq => absurd (by simp [lg_cmp]) cq)
set_option maxHeartbeats 4000000 in
set_option maxRecDepth 100000 in
theorem l_case_8 (X : Cx gX p s m #[Value.ref b] meth c cL_law 4 RL ret) (X2 : Cx gM p s m #[Value.ref b] meth c cL_law 4 RL ret) (hXs : va_X b L xs s s.heap) (hbl : b < s.heap.size) (Y : H2 gX gM (fun q : Nat => s.heap.size ≤ q) s.heap sx sm H locs) (hl : lv_has ls 4 [(0, .ref b), (1, .ref (gX.2.1 0)), (2, .ref (gM.2.1 0)), (3, .int i)]) (hcs : cells ≤ room_1.cells ∧ slots ≤ room_1.slots) (i1 : vp_in (i + 1) L) (i2 : vp_in (i + 2) L) {r9 : Int32} {sx9 : Sg} {sm9 : Sg} (hX : X7_best (xs (i + 1).toNatClampNeg) (xs (i + 2).toNatClampNeg) sx = some (r9, sx9)) (hM : X8_best (xs (i + 1).toNatClampNeg) (xs (i + 2).toNatClampNeg) sm = some (r9, sm9))
    (kk : ∀ (ls : Array Slot) (H : Heap) (locs : List Loc), H2 gX gM (fun q : Nat => s.heap.size ≤ q) s.heap sx9 sm9 H locs → lv_has ls 4 [(0, .ref b), (1, .ref (gX.2.1 0)), (2, .ref (gM.2.1 0)), (3, .int i)] → W p l e room_1 s m #[Value.ref b] below meth c H locs cells slots Q (F0 m 828 ls [])) : W p l e room_1 s m #[Value.ref b] below meth c H locs cells slots Q (F0 m 414 ls []) := by
  have hx := X.1
  have hb := X.2.1
  have hbA : ¬ (fun q : Nat => s.heap.size ≤ q) b := Nat.not_le.mpr hbl
  refine lv_aload_n hx hb dL_law_414 rfl (lv_at hl 1 rfl) ?_
  refine lv_aload_n hx hb dL_law_415 rfl (lv_at hl 0 rfl) ?_
  refine lv_iload_n hx hb dL_law_416 rfl (lv_at hl 3 rfl) ?_
  refine lv_iconst (v := 1) hx hb dL_law_417 (by decide) ?_
  refine lv_iadd hx hb dL_law_418 ?_
  refine va_sld hx hb hXs hbl hbA Y.1.2.2.1 i1 dL_law_419 ?_
  refine lv_aload_n hx hb dL_law_420 rfl (lv_at hl 0 rfl) ?_
  refine lv_iload_n hx hb dL_law_421 rfl (lv_at hl 3 rfl) ?_
  refine lv_iconst (v := 2) hx hb dL_law_422 (by decide) ?_
  refine lv_iadd hx hb dL_law_423 ?_
  refine va_sld hx hb hXs hbl hbA Y.1.2.2.1 i2 dL_law_424 ?_
  refine l_cXI Y (k_runV (As := [.int (xs (i + 1).toNatClampNeg), .int (xs (i + 2).toNatClampNeg)]) (rest := []) (o := 0) X Y.1 cl_L_50 (c_X7_best l hX _) ⟨rfl, rfl, Nat.le_of_ble_eq_true rfl, Nat.le_of_ble_eq_true rfl⟩ (Nat.le_of_ble_eq_true rfl) rfl rfl hl.1 rfl (Nat.le_of_ble_eq_true rfl) dL_law_425 ⟨hcs.1, hcs.2⟩) (fun H locs Y => ?_)
  refine lv_aload_n hx hb dL_law_428 rfl (lv_at hl 2 rfl) ?_
  refine lv_aload_n hx hb dL_law_429 rfl (lv_at hl 0 rfl) ?_
  refine lv_iload_n hx hb dL_law_430 rfl (lv_at hl 3 rfl) ?_
  refine lv_iconst (v := 1) hx hb dL_law_431 (by decide) ?_
  refine lv_iadd hx hb dL_law_432 ?_
  refine va_sld hx hb hXs hbl hbA Y.1.2.2.1 i1 dL_law_433 ?_
  refine lv_aload_n hx hb dL_law_434 rfl (lv_at hl 0 rfl) ?_
  refine lv_iload_n hx hb dL_law_435 rfl (lv_at hl 3 rfl) ?_
  refine lv_iconst (v := 2) hx hb dL_law_436 (by decide) ?_
  refine lv_iadd hx hb dL_law_437 ?_
  refine va_sld hx hb hXs hbl hbA Y.1.2.2.1 i2 dL_law_438 ?_
  refine l_cMI Y (k_runV (As := [.int (xs (i + 1).toNatClampNeg), .int (xs (i + 2).toNatClampNeg)]) (rest := [.int r9]) (o := 0) X2 Y.2.1 cl_L_53 (c_X8_best l hM _) ⟨rfl, rfl, Nat.le_of_ble_eq_true rfl, Nat.le_of_ble_eq_true rfl⟩ (Nat.le_of_ble_eq_true rfl) rfl rfl hl.1 rfl (Nat.le_of_ble_eq_true rfl) dL_law_439 ⟨hcs.1, hcs.2⟩) (fun H locs Y => ?_)
  exact lv_icmp_eq (tgt := 828) hx hb dL_law_442 (by decide) (fun _ => kk _ _ _ Y hl) (fun cq => absurd rfl cq)
set_option maxHeartbeats 4000000 in
set_option maxRecDepth 100000 in
theorem l_case_9 (X : Cx gX p s m #[Value.ref b] meth c cL_law 4 RL ret) (X2 : Cx gM p s m #[Value.ref b] meth c cL_law 4 RL ret) (hXs : va_X b L xs s s.heap) (hbl : b < s.heap.size) (Y : H2 gX gM (fun q : Nat => s.heap.size ≤ q) s.heap sx sm H locs) (hl : lv_has ls 4 [(0, .ref b), (1, .ref (gX.2.1 0)), (2, .ref (gM.2.1 0)), (3, .int i)]) (hcs : cells ≤ room_1.cells ∧ slots ≤ room_1.slots) (i1 : vp_in (i + 1) L) (i2 : vp_in (i + 2) L) (i3 : vp_in (i + 3) L) {r9 : Int64} {sx9 : Sg} {sm9 : Sg} (hX : X7_state (xs (i + 1).toNatClampNeg) (xs (i + 2).toNatClampNeg) (xs (i + 3).toNatClampNeg) sx = some (r9, sx9)) (hM : X8_state (xs (i + 1).toNatClampNeg) (xs (i + 2).toNatClampNeg) (xs (i + 3).toNatClampNeg) sm = some (r9, sm9))
    (kk : ∀ (ls : Array Slot) (H : Heap) (locs : List Loc), H2 gX gM (fun q : Nat => s.heap.size ≤ q) s.heap sx9 sm9 H locs → lv_has ls 4 [(0, .ref b), (1, .ref (gX.2.1 0)), (2, .ref (gM.2.1 0)), (3, .int i)] → W p l e room_1 s m #[Value.ref b] below meth c H locs cells slots Q (F0 m 828 ls [])) : W p l e room_1 s m #[Value.ref b] below meth c H locs cells slots Q (F0 m 447 ls []) := by
  have hx := X.1
  have hb := X.2.1
  have hbA : ¬ (fun q : Nat => s.heap.size ≤ q) b := Nat.not_le.mpr hbl
  refine lv_aload_n hx hb dL_law_447 rfl (lv_at hl 1 rfl) ?_
  refine lv_aload_n hx hb dL_law_448 rfl (lv_at hl 0 rfl) ?_
  refine lv_iload_n hx hb dL_law_449 rfl (lv_at hl 3 rfl) ?_
  refine lv_iconst (v := 1) hx hb dL_law_450 (by decide) ?_
  refine lv_iadd hx hb dL_law_451 ?_
  refine va_sld hx hb hXs hbl hbA Y.1.2.2.1 i1 dL_law_452 ?_
  refine lv_aload_n hx hb dL_law_453 rfl (lv_at hl 0 rfl) ?_
  refine lv_iload_n hx hb dL_law_454 rfl (lv_at hl 3 rfl) ?_
  refine lv_iconst (v := 2) hx hb dL_law_455 (by decide) ?_
  refine lv_iadd hx hb dL_law_456 ?_
  refine va_sld hx hb hXs hbl hbA Y.1.2.2.1 i2 dL_law_457 ?_
  refine lv_aload_n hx hb dL_law_458 rfl (lv_at hl 0 rfl) ?_
  refine lv_iload_n hx hb dL_law_459 rfl (lv_at hl 3 rfl) ?_
  refine lv_iconst (v := 3) hx hb dL_law_460 (by decide) ?_
  refine lv_iadd hx hb dL_law_461 ?_
  refine va_sld hx hb hXs hbl hbA Y.1.2.2.1 i3 dL_law_462 ?_
  refine l_cXJ Y (k_runV (As := [.int (xs (i + 1).toNatClampNeg), .int (xs (i + 2).toNatClampNeg), .int (xs (i + 3).toNatClampNeg)]) (rest := []) (o := 0) X Y.1 cl_L_54 (c_X7_state l hX _) ⟨rfl, rfl, Nat.le_of_ble_eq_true rfl, Nat.le_of_ble_eq_true rfl⟩ (Nat.le_of_ble_eq_true rfl) rfl rfl hl.1 rfl (Nat.le_of_ble_eq_true rfl) dL_law_463 ⟨hcs.1, hcs.2⟩) (fun H locs Y => ?_)
  refine lv_aload_n hx hb dL_law_466 rfl (lv_at hl 2 rfl) ?_
  refine lv_aload_n hx hb dL_law_467 rfl (lv_at hl 0 rfl) ?_
  refine lv_iload_n hx hb dL_law_468 rfl (lv_at hl 3 rfl) ?_
  refine lv_iconst (v := 1) hx hb dL_law_469 (by decide) ?_
  refine lv_iadd hx hb dL_law_470 ?_
  refine va_sld hx hb hXs hbl hbA Y.1.2.2.1 i1 dL_law_471 ?_
  refine lv_aload_n hx hb dL_law_472 rfl (lv_at hl 0 rfl) ?_
  refine lv_iload_n hx hb dL_law_473 rfl (lv_at hl 3 rfl) ?_
  refine lv_iconst (v := 2) hx hb dL_law_474 (by decide) ?_
  refine lv_iadd hx hb dL_law_475 ?_
  refine va_sld hx hb hXs hbl hbA Y.1.2.2.1 i2 dL_law_476 ?_
  refine lv_aload_n hx hb dL_law_477 rfl (lv_at hl 0 rfl) ?_
  refine lv_iload_n hx hb dL_law_478 rfl (lv_at hl 3 rfl) ?_
  refine lv_iconst (v := 3) hx hb dL_law_479 (by decide) ?_
  refine lv_iadd hx hb dL_law_480 ?_
  refine va_sld hx hb hXs hbl hbA Y.1.2.2.1 i3 dL_law_481 ?_
  refine l_cMJ Y (k_runV (As := [.int (xs (i + 1).toNatClampNeg), .int (xs (i + 2).toNatClampNeg), .int (xs (i + 3).toNatClampNeg)]) (rest := [.long r9]) (o := 0) X2 Y.2.1 cl_L_58 (c_X8_state l hM _) ⟨rfl, rfl, Nat.le_of_ble_eq_true rfl, Nat.le_of_ble_eq_true rfl⟩ (Nat.le_of_ble_eq_true rfl) rfl rfl hl.1 rfl (Nat.le_of_ble_eq_true rfl) dL_law_482 ⟨hcs.1, hcs.2⟩) (fun H locs Y => ?_)
  refine W.lcmp hx hb dL_law_485 ?_
  exact lv_if_eq (tgt := 828) hx hb dL_law_486 (by decide) (fun _ => kk _ _ _ Y hl) (fun cq => absurd (by simp [lg_cmp]) cq)
set_option maxHeartbeats 4000000 in
set_option maxRecDepth 100000 in
theorem l_case_10 (X : Cx gX p s m #[Value.ref b] meth c cL_law 4 RL ret) (X2 : Cx gM p s m #[Value.ref b] meth c cL_law 4 RL ret) (hXs : va_X b L xs s s.heap) (hbl : b < s.heap.size) (Y : H2 gX gM (fun q : Nat => s.heap.size ≤ q) s.heap sx sm H locs) (hl : lv_has ls 4 [(0, .ref b), (1, .ref (gX.2.1 0)), (2, .ref (gM.2.1 0)), (3, .int i)]) (hcs : cells ≤ room_1.cells ∧ slots ≤ room_1.slots) (i1 : vp_in (i + 1) L) {r9 : Int32} {sx9 : Sg} {sm9 : Sg} (hX : X7_dip (xs (i + 1).toNatClampNeg) sx = some (r9, sx9)) (hM : X8_dip (xs (i + 1).toNatClampNeg) sm = some (r9, sm9))
    (kk : ∀ (ls : Array Slot) (H : Heap) (locs : List Loc), H2 gX gM (fun q : Nat => s.heap.size ≤ q) s.heap sx9 sm9 H locs → lv_has ls 4 [(0, .ref b), (1, .ref (gX.2.1 0)), (2, .ref (gM.2.1 0)), (3, .int i)] → W p l e room_1 s m #[Value.ref b] below meth c H locs cells slots Q (F0 m 828 ls [])) : W p l e room_1 s m #[Value.ref b] below meth c H locs cells slots Q (F0 m 491 ls []) := by
  have hx := X.1
  have hb := X.2.1
  have hbA : ¬ (fun q : Nat => s.heap.size ≤ q) b := Nat.not_le.mpr hbl
  refine lv_aload_n hx hb dL_law_491 rfl (lv_at hl 1 rfl) ?_
  refine lv_aload_n hx hb dL_law_492 rfl (lv_at hl 0 rfl) ?_
  refine lv_iload_n hx hb dL_law_493 rfl (lv_at hl 3 rfl) ?_
  refine lv_iconst (v := 1) hx hb dL_law_494 (by decide) ?_
  refine lv_iadd hx hb dL_law_495 ?_
  refine va_sld hx hb hXs hbl hbA Y.1.2.2.1 i1 dL_law_496 ?_
  refine l_cXI Y (k_runV (As := [.int (xs (i + 1).toNatClampNeg)]) (rest := []) (o := 0) X Y.1 cl_L_59 (c_X7_dip l hX _) ⟨rfl, rfl, Nat.le_of_ble_eq_true rfl, Nat.le_of_ble_eq_true rfl⟩ (Nat.le_of_ble_eq_true rfl) rfl rfl hl.1 rfl (Nat.le_of_ble_eq_true rfl) dL_law_497 ⟨hcs.1, hcs.2⟩) (fun H locs Y => ?_)
  refine lv_aload_n hx hb dL_law_500 rfl (lv_at hl 2 rfl) ?_
  refine lv_aload_n hx hb dL_law_501 rfl (lv_at hl 0 rfl) ?_
  refine lv_iload_n hx hb dL_law_502 rfl (lv_at hl 3 rfl) ?_
  refine lv_iconst (v := 1) hx hb dL_law_503 (by decide) ?_
  refine lv_iadd hx hb dL_law_504 ?_
  refine va_sld hx hb hXs hbl hbA Y.1.2.2.1 i1 dL_law_505 ?_
  refine l_cMI Y (k_runV (As := [.int (xs (i + 1).toNatClampNeg)]) (rest := [.int r9]) (o := 0) X2 Y.2.1 cl_L_62 (c_X8_dip l hM _) ⟨rfl, rfl, Nat.le_of_ble_eq_true rfl, Nat.le_of_ble_eq_true rfl⟩ (Nat.le_of_ble_eq_true rfl) rfl rfl hl.1 rfl (Nat.le_of_ble_eq_true rfl) dL_law_506 ⟨hcs.1, hcs.2⟩) (fun H locs Y => ?_)
  exact lv_icmp_eq (tgt := 828) hx hb dL_law_509 (by decide) (fun _ => kk _ _ _ Y hl) (fun cq => absurd rfl cq)
set_option maxHeartbeats 4000000 in
set_option maxRecDepth 100000 in
theorem l_case_11 (X : Cx gX p s m #[Value.ref b] meth c cL_law 4 RL ret) (X2 : Cx gM p s m #[Value.ref b] meth c cL_law 4 RL ret) (hXs : va_X b L xs s s.heap) (hbl : b < s.heap.size) (Y : H2 gX gM (fun q : Nat => s.heap.size ≤ q) s.heap sx sm H locs) (hl : lv_has ls 4 [(0, .ref b), (1, .ref (gX.2.1 0)), (2, .ref (gM.2.1 0)), (3, .int i)]) (hcs : cells ≤ room_1.cells ∧ slots ≤ room_1.slots) (i1 : vp_in (i + 1) L) (i2 : vp_in (i + 2) L) {r9 : Int32} {sx9 : Sg} {sm9 : Sg} (hX : X7_kept (xs (i + 1).toNatClampNeg) (xs (i + 2).toNatClampNeg) sx = some (r9, sx9)) (hM : X8_kept (xs (i + 1).toNatClampNeg) (xs (i + 2).toNatClampNeg) sm = some (r9, sm9))
    (kk : ∀ (ls : Array Slot) (H : Heap) (locs : List Loc), H2 gX gM (fun q : Nat => s.heap.size ≤ q) s.heap sx9 sm9 H locs → lv_has ls 4 [(0, .ref b), (1, .ref (gX.2.1 0)), (2, .ref (gM.2.1 0)), (3, .int i)] → W p l e room_1 s m #[Value.ref b] below meth c H locs cells slots Q (F0 m 828 ls [])) : W p l e room_1 s m #[Value.ref b] below meth c H locs cells slots Q (F0 m 514 ls []) := by
  have hx := X.1
  have hb := X.2.1
  have hbA : ¬ (fun q : Nat => s.heap.size ≤ q) b := Nat.not_le.mpr hbl
  refine lv_aload_n hx hb dL_law_514 rfl (lv_at hl 1 rfl) ?_
  refine lv_aload_n hx hb dL_law_515 rfl (lv_at hl 0 rfl) ?_
  refine lv_iload_n hx hb dL_law_516 rfl (lv_at hl 3 rfl) ?_
  refine lv_iconst (v := 1) hx hb dL_law_517 (by decide) ?_
  refine lv_iadd hx hb dL_law_518 ?_
  refine va_sld hx hb hXs hbl hbA Y.1.2.2.1 i1 dL_law_519 ?_
  refine lv_aload_n hx hb dL_law_520 rfl (lv_at hl 0 rfl) ?_
  refine lv_iload_n hx hb dL_law_521 rfl (lv_at hl 3 rfl) ?_
  refine lv_iconst (v := 2) hx hb dL_law_522 (by decide) ?_
  refine lv_iadd hx hb dL_law_523 ?_
  refine va_sld hx hb hXs hbl hbA Y.1.2.2.1 i2 dL_law_524 ?_
  refine l_cXI Y (k_runV (As := [.int (xs (i + 1).toNatClampNeg), .int (xs (i + 2).toNatClampNeg)]) (rest := []) (o := 0) X Y.1 cl_L_63 (c_X7_kept l hX _) ⟨rfl, rfl, Nat.le_of_ble_eq_true rfl, Nat.le_of_ble_eq_true rfl⟩ (Nat.le_of_ble_eq_true rfl) rfl rfl hl.1 rfl (Nat.le_of_ble_eq_true rfl) dL_law_525 ⟨hcs.1, hcs.2⟩) (fun H locs Y => ?_)
  refine lv_aload_n hx hb dL_law_528 rfl (lv_at hl 2 rfl) ?_
  refine lv_aload_n hx hb dL_law_529 rfl (lv_at hl 0 rfl) ?_
  refine lv_iload_n hx hb dL_law_530 rfl (lv_at hl 3 rfl) ?_
  refine lv_iconst (v := 1) hx hb dL_law_531 (by decide) ?_
  refine lv_iadd hx hb dL_law_532 ?_
  refine va_sld hx hb hXs hbl hbA Y.1.2.2.1 i1 dL_law_533 ?_
  refine lv_aload_n hx hb dL_law_534 rfl (lv_at hl 0 rfl) ?_
  refine lv_iload_n hx hb dL_law_535 rfl (lv_at hl 3 rfl) ?_
  refine lv_iconst (v := 2) hx hb dL_law_536 (by decide) ?_
  refine lv_iadd hx hb dL_law_537 ?_
  refine va_sld hx hb hXs hbl hbA Y.1.2.2.1 i2 dL_law_538 ?_
  refine l_cMI Y (k_runV (As := [.int (xs (i + 1).toNatClampNeg), .int (xs (i + 2).toNatClampNeg)]) (rest := [.int r9]) (o := 0) X2 Y.2.1 cl_L_66 (c_X8_kept l hM _) ⟨rfl, rfl, Nat.le_of_ble_eq_true rfl, Nat.le_of_ble_eq_true rfl⟩ (Nat.le_of_ble_eq_true rfl) rfl rfl hl.1 rfl (Nat.le_of_ble_eq_true rfl) dL_law_539 ⟨hcs.1, hcs.2⟩) (fun H locs Y => ?_)
  exact lv_icmp_eq (tgt := 828) hx hb dL_law_542 (by decide) (fun _ => kk _ _ _ Y hl) (fun cq => absurd rfl cq)
set_option maxHeartbeats 4000000 in
set_option maxRecDepth 100000 in
theorem l_case_12 (X : Cx gX p s m #[Value.ref b] meth c cL_law 4 RL ret) (X2 : Cx gM p s m #[Value.ref b] meth c cL_law 4 RL ret) (hXs : va_X b L xs s s.heap) (hbl : b < s.heap.size) (Y : H2 gX gM (fun q : Nat => s.heap.size ≤ q) s.heap sx sm H locs) (hl : lv_has ls 4 [(0, .ref b), (1, .ref (gX.2.1 0)), (2, .ref (gM.2.1 0)), (3, .int i)]) (hcs : cells ≤ room_1.cells ∧ slots ≤ room_1.slots) (i1 : vp_in (i + 1) L) (i2 : vp_in (i + 2) L) {r9 : Int64} {sx9 : Sg} {sm9 : Sg} (hX : X7_keeps (xs (i + 1).toNatClampNeg) (xs (i + 2).toNatClampNeg) sx = some (r9, sx9)) (hM : X8_keeps (xs (i + 1).toNatClampNeg) (xs (i + 2).toNatClampNeg) sm = some (r9, sm9))
    (kk : ∀ (ls : Array Slot) (H : Heap) (locs : List Loc), H2 gX gM (fun q : Nat => s.heap.size ≤ q) s.heap sx9 sm9 H locs → lv_has ls 4 [(0, .ref b), (1, .ref (gX.2.1 0)), (2, .ref (gM.2.1 0)), (3, .int i)] → W p l e room_1 s m #[Value.ref b] below meth c H locs cells slots Q (F0 m 828 ls [])) : W p l e room_1 s m #[Value.ref b] below meth c H locs cells slots Q (F0 m 547 ls []) := by
  have hx := X.1
  have hb := X.2.1
  have hbA : ¬ (fun q : Nat => s.heap.size ≤ q) b := Nat.not_le.mpr hbl
  refine lv_aload_n hx hb dL_law_547 rfl (lv_at hl 1 rfl) ?_
  refine lv_aload_n hx hb dL_law_548 rfl (lv_at hl 0 rfl) ?_
  refine lv_iload_n hx hb dL_law_549 rfl (lv_at hl 3 rfl) ?_
  refine lv_iconst (v := 1) hx hb dL_law_550 (by decide) ?_
  refine lv_iadd hx hb dL_law_551 ?_
  refine va_sld hx hb hXs hbl hbA Y.1.2.2.1 i1 dL_law_552 ?_
  refine lv_aload_n hx hb dL_law_553 rfl (lv_at hl 0 rfl) ?_
  refine lv_iload_n hx hb dL_law_554 rfl (lv_at hl 3 rfl) ?_
  refine lv_iconst (v := 2) hx hb dL_law_555 (by decide) ?_
  refine lv_iadd hx hb dL_law_556 ?_
  refine va_sld hx hb hXs hbl hbA Y.1.2.2.1 i2 dL_law_557 ?_
  refine l_cXJ Y (k_runV (As := [.int (xs (i + 1).toNatClampNeg), .int (xs (i + 2).toNatClampNeg)]) (rest := []) (o := 0) X Y.1 cl_L_67 (c_X7_keeps l hX _) ⟨rfl, rfl, Nat.le_of_ble_eq_true rfl, Nat.le_of_ble_eq_true rfl⟩ (Nat.le_of_ble_eq_true rfl) rfl rfl hl.1 rfl (Nat.le_of_ble_eq_true rfl) dL_law_558 ⟨hcs.1, hcs.2⟩) (fun H locs Y => ?_)
  refine lv_aload_n hx hb dL_law_561 rfl (lv_at hl 2 rfl) ?_
  refine lv_aload_n hx hb dL_law_562 rfl (lv_at hl 0 rfl) ?_
  refine lv_iload_n hx hb dL_law_563 rfl (lv_at hl 3 rfl) ?_
  refine lv_iconst (v := 1) hx hb dL_law_564 (by decide) ?_
  refine lv_iadd hx hb dL_law_565 ?_
  refine va_sld hx hb hXs hbl hbA Y.1.2.2.1 i1 dL_law_566 ?_
  refine lv_aload_n hx hb dL_law_567 rfl (lv_at hl 0 rfl) ?_
  refine lv_iload_n hx hb dL_law_568 rfl (lv_at hl 3 rfl) ?_
  refine lv_iconst (v := 2) hx hb dL_law_569 (by decide) ?_
  refine lv_iadd hx hb dL_law_570 ?_
  refine va_sld hx hb hXs hbl hbA Y.1.2.2.1 i2 dL_law_571 ?_
  refine l_cMJ Y (k_runV (As := [.int (xs (i + 1).toNatClampNeg), .int (xs (i + 2).toNatClampNeg)]) (rest := [.long r9]) (o := 0) X2 Y.2.1 cl_L_70 (c_X8_keeps l hM _) ⟨rfl, rfl, Nat.le_of_ble_eq_true rfl, Nat.le_of_ble_eq_true rfl⟩ (Nat.le_of_ble_eq_true rfl) rfl rfl hl.1 rfl (Nat.le_of_ble_eq_true rfl) dL_law_572 ⟨hcs.1, hcs.2⟩) (fun H locs Y => ?_)
  refine W.lcmp hx hb dL_law_575 ?_
  exact lv_if_eq (tgt := 828) hx hb dL_law_576 (by decide) (fun _ => kk _ _ _ Y hl) (fun cq => absurd (by simp [lg_cmp]) cq)
set_option maxHeartbeats 4000000 in
set_option maxRecDepth 100000 in
theorem l_case_13 (X : Cx gX p s m #[Value.ref b] meth c cL_law 4 RL ret) (X2 : Cx gM p s m #[Value.ref b] meth c cL_law 4 RL ret) (hXs : va_X b L xs s s.heap) (hbl : b < s.heap.size) (Y : H2 gX gM (fun q : Nat => s.heap.size ≤ q) s.heap sx sm H locs) (hl : lv_has ls 4 [(0, .ref b), (1, .ref (gX.2.1 0)), (2, .ref (gM.2.1 0)), (3, .int i)]) (hcs : cells ≤ room_1.cells ∧ slots ≤ room_1.slots)  {r9 : Int32} {sx9 : Sg} {sm9 : Sg} (hX : X7_rather sx = some (r9, sx9)) (hM : X8_rather sm = some (r9, sm9))
    (kk : ∀ (ls : Array Slot) (H : Heap) (locs : List Loc), H2 gX gM (fun q : Nat => s.heap.size ≤ q) s.heap sx9 sm9 H locs → lv_has ls 4 [(0, .ref b), (1, .ref (gX.2.1 0)), (2, .ref (gM.2.1 0)), (3, .int i)] → W p l e room_1 s m #[Value.ref b] below meth c H locs cells slots Q (F0 m 828 ls [])) : W p l e room_1 s m #[Value.ref b] below meth c H locs cells slots Q (F0 m 581 ls []) := by
  have hx := X.1
  have hb := X.2.1
  have hbA : ¬ (fun q : Nat => s.heap.size ≤ q) b := Nat.not_le.mpr hbl
  refine lv_aload_n hx hb dL_law_581 rfl (lv_at hl 1 rfl) ?_
  refine l_cXI Y (k_runV (As := []) (rest := []) (o := 0) X Y.1 cl_L_71 (c_X7_rather l hX _) ⟨rfl, rfl, Nat.le_of_ble_eq_true rfl, Nat.le_of_ble_eq_true rfl⟩ (Nat.le_of_ble_eq_true rfl) rfl rfl hl.1 rfl (Nat.le_of_ble_eq_true rfl) dL_law_582 ⟨hcs.1, hcs.2⟩) (fun H locs Y => ?_)
  refine lv_aload_n hx hb dL_law_585 rfl (lv_at hl 2 rfl) ?_
  refine l_cMI Y (k_runV (As := []) (rest := [.int r9]) (o := 0) X2 Y.2.1 cl_L_75 (c_X8_rather l hM _) ⟨rfl, rfl, Nat.le_of_ble_eq_true rfl, Nat.le_of_ble_eq_true rfl⟩ (Nat.le_of_ble_eq_true rfl) rfl rfl hl.1 rfl (Nat.le_of_ble_eq_true rfl) dL_law_586 ⟨hcs.1, hcs.2⟩) (fun H locs Y => ?_)
  exact lv_icmp_eq (tgt := 828) hx hb dL_law_589 (by decide) (fun _ => kk _ _ _ Y hl) (fun cq => absurd rfl cq)
set_option maxHeartbeats 4000000 in
set_option maxRecDepth 100000 in
theorem l_case_14 (X : Cx gX p s m #[Value.ref b] meth c cL_law 4 RL ret) (X2 : Cx gM p s m #[Value.ref b] meth c cL_law 4 RL ret) (hXs : va_X b L xs s s.heap) (hbl : b < s.heap.size) (Y : H2 gX gM (fun q : Nat => s.heap.size ≤ q) s.heap sx sm H locs) (hl : lv_has ls 4 [(0, .ref b), (1, .ref (gX.2.1 0)), (2, .ref (gM.2.1 0)), (3, .int i)]) (hcs : cells ≤ room_1.cells ∧ slots ≤ room_1.slots) (i1 : vp_in (i + 1) L) (i2 : vp_in (i + 2) L) {r9 : Int32} {sm9 : Sg} (hX : X7_picks (xs (i + 1).toNatClampNeg) (xs (i + 2).toNatClampNeg) sx = some r9) (hM : X8_picks (xs (i + 1).toNatClampNeg) (xs (i + 2).toNatClampNeg) sm = some (r9, sm9))
    (kk : ∀ (ls : Array Slot) (H : Heap) (locs : List Loc), H2 gX gM (fun q : Nat => s.heap.size ≤ q) s.heap sx sm9 H locs → lv_has ls 4 [(0, .ref b), (1, .ref (gX.2.1 0)), (2, .ref (gM.2.1 0)), (3, .int i)] → W p l e room_1 s m #[Value.ref b] below meth c H locs cells slots Q (F0 m 828 ls [])) : W p l e room_1 s m #[Value.ref b] below meth c H locs cells slots Q (F0 m 594 ls []) := by
  have hx := X.1
  have hb := X.2.1
  have hbA : ¬ (fun q : Nat => s.heap.size ≤ q) b := Nat.not_le.mpr hbl
  refine lv_aload_n hx hb dL_law_594 rfl (lv_at hl 1 rfl) ?_
  refine lv_aload_n hx hb dL_law_595 rfl (lv_at hl 0 rfl) ?_
  refine lv_iload_n hx hb dL_law_596 rfl (lv_at hl 3 rfl) ?_
  refine lv_iconst (v := 1) hx hb dL_law_597 (by decide) ?_
  refine lv_iadd hx hb dL_law_598 ?_
  refine va_sld hx hb hXs hbl hbA Y.1.2.2.1 i1 dL_law_599 ?_
  refine lv_aload_n hx hb dL_law_600 rfl (lv_at hl 0 rfl) ?_
  refine lv_iload_n hx hb dL_law_601 rfl (lv_at hl 3 rfl) ?_
  refine lv_iconst (v := 2) hx hb dL_law_602 (by decide) ?_
  refine lv_iadd hx hb dL_law_603 ?_
  refine va_sld hx hb hXs hbl hbA Y.1.2.2.1 i2 dL_law_604 ?_
  refine l_cXI Y (k_runV (As := [.int (xs (i + 1).toNatClampNeg), .int (xs (i + 2).toNatClampNeg)]) (rest := []) (o := 0) X Y.1 cl_L_76 (c_X7_picks l hX _) ⟨rfl, rfl, Nat.le_of_ble_eq_true rfl, Nat.le_of_ble_eq_true rfl⟩ (Nat.le_of_ble_eq_true rfl) rfl rfl hl.1 rfl (Nat.le_of_ble_eq_true rfl) dL_law_605 ⟨hcs.1, hcs.2⟩) (fun H locs Y => ?_)
  refine lv_aload_n hx hb dL_law_608 rfl (lv_at hl 2 rfl) ?_
  refine lv_aload_n hx hb dL_law_609 rfl (lv_at hl 0 rfl) ?_
  refine lv_iload_n hx hb dL_law_610 rfl (lv_at hl 3 rfl) ?_
  refine lv_iconst (v := 1) hx hb dL_law_611 (by decide) ?_
  refine lv_iadd hx hb dL_law_612 ?_
  refine va_sld hx hb hXs hbl hbA Y.1.2.2.1 i1 dL_law_613 ?_
  refine lv_aload_n hx hb dL_law_614 rfl (lv_at hl 0 rfl) ?_
  refine lv_iload_n hx hb dL_law_615 rfl (lv_at hl 3 rfl) ?_
  refine lv_iconst (v := 2) hx hb dL_law_616 (by decide) ?_
  refine lv_iadd hx hb dL_law_617 ?_
  refine va_sld hx hb hXs hbl hbA Y.1.2.2.1 i2 dL_law_618 ?_
  refine l_cMI Y (k_runV (As := [.int (xs (i + 1).toNatClampNeg), .int (xs (i + 2).toNatClampNeg)]) (rest := [.int r9]) (o := 0) X2 Y.2.1 cl_L_79 (c_X8_picks l hM _) ⟨rfl, rfl, Nat.le_of_ble_eq_true rfl, Nat.le_of_ble_eq_true rfl⟩ (Nat.le_of_ble_eq_true rfl) rfl rfl hl.1 rfl (Nat.le_of_ble_eq_true rfl) dL_law_619 ⟨hcs.1, hcs.2⟩) (fun H locs Y => ?_)
  exact lv_icmp_eq (tgt := 828) hx hb dL_law_622 (by decide) (fun _ => kk _ _ _ Y hl) (fun cq => absurd rfl cq)
set_option maxHeartbeats 4000000 in
set_option maxRecDepth 100000 in
theorem l_case_15 (X : Cx gX p s m #[Value.ref b] meth c cL_law 4 RL ret) (X2 : Cx gM p s m #[Value.ref b] meth c cL_law 4 RL ret) (hXs : va_X b L xs s s.heap) (hbl : b < s.heap.size) (Y : H2 gX gM (fun q : Nat => s.heap.size ≤ q) s.heap sx sm H locs) (hl : lv_has ls 4 [(0, .ref b), (1, .ref (gX.2.1 0)), (2, .ref (gM.2.1 0)), (3, .int i)]) (hcs : cells ≤ room_1.cells ∧ slots ≤ room_1.slots) (i1 : vp_in (i + 1) L) {r9 : Int32} {sx9 : Sg} {sm9 : Sg} (hX : X7_made (xs (i + 1).toNatClampNeg) sx = some (r9, sx9)) (hM : X8_made (xs (i + 1).toNatClampNeg) sm = some (r9, sm9))
    (kk : ∀ (ls : Array Slot) (H : Heap) (locs : List Loc), H2 gX gM (fun q : Nat => s.heap.size ≤ q) s.heap sx9 sm9 H locs → lv_has ls 4 [(0, .ref b), (1, .ref (gX.2.1 0)), (2, .ref (gM.2.1 0)), (3, .int i)] → W p l e room_1 s m #[Value.ref b] below meth c H locs cells slots Q (F0 m 828 ls [])) : W p l e room_1 s m #[Value.ref b] below meth c H locs cells slots Q (F0 m 627 ls []) := by
  have hx := X.1
  have hb := X.2.1
  have hbA : ¬ (fun q : Nat => s.heap.size ≤ q) b := Nat.not_le.mpr hbl
  refine lv_aload_n hx hb dL_law_627 rfl (lv_at hl 1 rfl) ?_
  refine lv_aload_n hx hb dL_law_628 rfl (lv_at hl 0 rfl) ?_
  refine lv_iload_n hx hb dL_law_629 rfl (lv_at hl 3 rfl) ?_
  refine lv_iconst (v := 1) hx hb dL_law_630 (by decide) ?_
  refine lv_iadd hx hb dL_law_631 ?_
  refine va_sld hx hb hXs hbl hbA Y.1.2.2.1 i1 dL_law_632 ?_
  refine l_cXI Y (k_runV (As := [.int (xs (i + 1).toNatClampNeg)]) (rest := []) (o := 0) X Y.1 cl_L_80 (c_X7_made l hX _) ⟨rfl, rfl, Nat.le_of_ble_eq_true rfl, Nat.le_of_ble_eq_true rfl⟩ (Nat.le_of_ble_eq_true rfl) rfl rfl hl.1 rfl (Nat.le_of_ble_eq_true rfl) dL_law_633 ⟨hcs.1, hcs.2⟩) (fun H locs Y => ?_)
  refine lv_aload_n hx hb dL_law_636 rfl (lv_at hl 2 rfl) ?_
  refine lv_aload_n hx hb dL_law_637 rfl (lv_at hl 0 rfl) ?_
  refine lv_iload_n hx hb dL_law_638 rfl (lv_at hl 3 rfl) ?_
  refine lv_iconst (v := 1) hx hb dL_law_639 (by decide) ?_
  refine lv_iadd hx hb dL_law_640 ?_
  refine va_sld hx hb hXs hbl hbA Y.1.2.2.1 i1 dL_law_641 ?_
  refine l_cMI Y (k_runV (As := [.int (xs (i + 1).toNatClampNeg)]) (rest := [.int r9]) (o := 0) X2 Y.2.1 cl_L_83 (c_X8_made l hM _) ⟨rfl, rfl, Nat.le_of_ble_eq_true rfl, Nat.le_of_ble_eq_true rfl⟩ (Nat.le_of_ble_eq_true rfl) rfl rfl hl.1 rfl (Nat.le_of_ble_eq_true rfl) dL_law_642 ⟨hcs.1, hcs.2⟩) (fun H locs Y => ?_)
  exact lv_icmp_eq (tgt := 828) hx hb dL_law_645 (by decide) (fun _ => kk _ _ _ Y hl) (fun cq => absurd rfl cq)
set_option maxHeartbeats 4000000 in
set_option maxRecDepth 100000 in
theorem l_case_16 (X : Cx gX p s m #[Value.ref b] meth c cL_law 4 RL ret) (X2 : Cx gM p s m #[Value.ref b] meth c cL_law 4 RL ret) (hXs : va_X b L xs s s.heap) (hbl : b < s.heap.size) (Y : H2 gX gM (fun q : Nat => s.heap.size ≤ q) s.heap sx sm H locs) (hl : lv_has ls 4 [(0, .ref b), (1, .ref (gX.2.1 0)), (2, .ref (gM.2.1 0)), (3, .int i)]) (hcs : cells ≤ room_1.cells ∧ slots ≤ room_1.slots) (i1 : vp_in (i + 1) L) {r9 : Int32} {sx9 : Sg} {sm9 : Sg} (hX : X7_say (xs (i + 1).toNatClampNeg) sx = some (r9, sx9)) (hM : X8_say (xs (i + 1).toNatClampNeg) sm = some (r9, sm9))
    (kk : ∀ (ls : Array Slot) (H : Heap) (locs : List Loc), H2 gX gM (fun q : Nat => s.heap.size ≤ q) s.heap sx9 sm9 H locs → lv_has ls 4 [(0, .ref b), (1, .ref (gX.2.1 0)), (2, .ref (gM.2.1 0)), (3, .int i)] → W p l e room_1 s m #[Value.ref b] below meth c H locs cells slots Q (F0 m 828 ls [])) : W p l e room_1 s m #[Value.ref b] below meth c H locs cells slots Q (F0 m 650 ls []) := by
  have hx := X.1
  have hb := X.2.1
  have hbA : ¬ (fun q : Nat => s.heap.size ≤ q) b := Nat.not_le.mpr hbl
  refine lv_aload_n hx hb dL_law_650 rfl (lv_at hl 1 rfl) ?_
  refine lv_aload_n hx hb dL_law_651 rfl (lv_at hl 0 rfl) ?_
  refine lv_iload_n hx hb dL_law_652 rfl (lv_at hl 3 rfl) ?_
  refine lv_iconst (v := 1) hx hb dL_law_653 (by decide) ?_
  refine lv_iadd hx hb dL_law_654 ?_
  refine va_sld hx hb hXs hbl hbA Y.1.2.2.1 i1 dL_law_655 ?_
  refine l_cXI Y (k_runV (As := [.int (xs (i + 1).toNatClampNeg)]) (rest := []) (o := 0) X Y.1 cl_L_84 (c_X7_say l hX _) ⟨rfl, rfl, Nat.le_of_ble_eq_true rfl, Nat.le_of_ble_eq_true rfl⟩ (Nat.le_of_ble_eq_true rfl) rfl rfl hl.1 rfl (Nat.le_of_ble_eq_true rfl) dL_law_656 ⟨hcs.1, hcs.2⟩) (fun H locs Y => ?_)
  refine lv_aload_n hx hb dL_law_659 rfl (lv_at hl 2 rfl) ?_
  refine lv_aload_n hx hb dL_law_660 rfl (lv_at hl 0 rfl) ?_
  refine lv_iload_n hx hb dL_law_661 rfl (lv_at hl 3 rfl) ?_
  refine lv_iconst (v := 1) hx hb dL_law_662 (by decide) ?_
  refine lv_iadd hx hb dL_law_663 ?_
  refine va_sld hx hb hXs hbl hbA Y.1.2.2.1 i1 dL_law_664 ?_
  refine l_cMI Y (k_runV (As := [.int (xs (i + 1).toNatClampNeg)]) (rest := [.int r9]) (o := 0) X2 Y.2.1 cl_L_87 (c_X8_say l hM _) ⟨rfl, rfl, Nat.le_of_ble_eq_true rfl, Nat.le_of_ble_eq_true rfl⟩ (Nat.le_of_ble_eq_true rfl) rfl rfl hl.1 rfl (Nat.le_of_ble_eq_true rfl) dL_law_665 ⟨hcs.1, hcs.2⟩) (fun H locs Y => ?_)
  exact lv_icmp_eq (tgt := 828) hx hb dL_law_668 (by decide) (fun _ => kk _ _ _ Y hl) (fun cq => absurd rfl cq)
set_option maxHeartbeats 4000000 in
set_option maxRecDepth 100000 in
theorem l_case_17 (X : Cx gX p s m #[Value.ref b] meth c cL_law 4 RL ret) (X2 : Cx gM p s m #[Value.ref b] meth c cL_law 4 RL ret) (hXs : va_X b L xs s s.heap) (hbl : b < s.heap.size) (Y : H2 gX gM (fun q : Nat => s.heap.size ≤ q) s.heap sx sm H locs) (hl : lv_has ls 4 [(0, .ref b), (1, .ref (gX.2.1 0)), (2, .ref (gM.2.1 0)), (3, .int i)]) (hcs : cells ≤ room_1.cells ∧ slots ≤ room_1.slots)  {r9 : Int32} {sx9 : Sg} {sm9 : Sg} (hX : X7_wipe sx = some (r9, sx9)) (hM : X8_wipe sm = some (r9, sm9))
    (kk : ∀ (ls : Array Slot) (H : Heap) (locs : List Loc), H2 gX gM (fun q : Nat => s.heap.size ≤ q) s.heap sx9 sm9 H locs → lv_has ls 4 [(0, .ref b), (1, .ref (gX.2.1 0)), (2, .ref (gM.2.1 0)), (3, .int i)] → W p l e room_1 s m #[Value.ref b] below meth c H locs cells slots Q (F0 m 828 ls [])) : W p l e room_1 s m #[Value.ref b] below meth c H locs cells slots Q (F0 m 673 ls []) := by
  have hx := X.1
  have hb := X.2.1
  have hbA : ¬ (fun q : Nat => s.heap.size ≤ q) b := Nat.not_le.mpr hbl
  refine lv_aload_n hx hb dL_law_673 rfl (lv_at hl 1 rfl) ?_
  refine l_cXI Y (k_runV (As := []) (rest := []) (o := 0) X Y.1 cl_L_88 (c_X7_wipe l hX _) ⟨rfl, rfl, Nat.le_of_ble_eq_true rfl, Nat.le_of_ble_eq_true rfl⟩ (Nat.le_of_ble_eq_true rfl) rfl rfl hl.1 rfl (Nat.le_of_ble_eq_true rfl) dL_law_674 ⟨hcs.1, hcs.2⟩) (fun H locs Y => ?_)
  refine lv_aload_n hx hb dL_law_677 rfl (lv_at hl 2 rfl) ?_
  refine l_cMI Y (k_runV (As := []) (rest := [.int r9]) (o := 0) X2 Y.2.1 cl_L_91 (c_X8_wipe l hM _) ⟨rfl, rfl, Nat.le_of_ble_eq_true rfl, Nat.le_of_ble_eq_true rfl⟩ (Nat.le_of_ble_eq_true rfl) rfl rfl hl.1 rfl (Nat.le_of_ble_eq_true rfl) dL_law_678 ⟨hcs.1, hcs.2⟩) (fun H locs Y => ?_)
  exact lv_icmp_eq (tgt := 828) hx hb dL_law_681 (by decide) (fun _ => kk _ _ _ Y hl) (fun cq => absurd rfl cq)
set_option maxHeartbeats 4000000 in
set_option maxRecDepth 100000 in
theorem l_case_18 (X : Cx gX p s m #[Value.ref b] meth c cL_law 4 RL ret) (X2 : Cx gM p s m #[Value.ref b] meth c cL_law 4 RL ret) (hXs : va_X b L xs s s.heap) (hbl : b < s.heap.size) (Y : H2 gX gM (fun q : Nat => s.heap.size ≤ q) s.heap sx sm H locs) (hl : lv_has ls 4 [(0, .ref b), (1, .ref (gX.2.1 0)), (2, .ref (gM.2.1 0)), (3, .int i)]) (hcs : cells ≤ room_1.cells ∧ slots ≤ room_1.slots)  {r9 : Int32}  (hX : X7_fault sx = some r9) (hM : X8_fault sm = some r9)
    (kk : ∀ (ls : Array Slot) (H : Heap) (locs : List Loc), H2 gX gM (fun q : Nat => s.heap.size ≤ q) s.heap sx sm H locs → lv_has ls 4 [(0, .ref b), (1, .ref (gX.2.1 0)), (2, .ref (gM.2.1 0)), (3, .int i)] → W p l e room_1 s m #[Value.ref b] below meth c H locs cells slots Q (F0 m 828 ls [])) : W p l e room_1 s m #[Value.ref b] below meth c H locs cells slots Q (F0 m 686 ls []) := by
  have hx := X.1
  have hb := X.2.1
  have hbA : ¬ (fun q : Nat => s.heap.size ≤ q) b := Nat.not_le.mpr hbl
  refine lv_aload_n hx hb dL_law_686 rfl (lv_at hl 1 rfl) ?_
  refine l_cXI Y (k_runV (As := []) (rest := []) (o := 0) X Y.1 cl_L_92 (c_X7_fault l hX _) ⟨rfl, rfl, Nat.le_of_ble_eq_true rfl, Nat.le_of_ble_eq_true rfl⟩ (Nat.le_of_ble_eq_true rfl) rfl rfl hl.1 rfl (Nat.le_of_ble_eq_true rfl) dL_law_687 ⟨hcs.1, hcs.2⟩) (fun H locs Y => ?_)
  refine lv_aload_n hx hb dL_law_690 rfl (lv_at hl 2 rfl) ?_
  refine l_cMI Y (k_runV (As := []) (rest := [.int r9]) (o := 0) X2 Y.2.1 cl_L_95 (c_X8_fault l hM _) ⟨rfl, rfl, Nat.le_of_ble_eq_true rfl, Nat.le_of_ble_eq_true rfl⟩ (Nat.le_of_ble_eq_true rfl) rfl rfl hl.1 rfl (Nat.le_of_ble_eq_true rfl) dL_law_691 ⟨hcs.1, hcs.2⟩) (fun H locs Y => ?_)
  exact lv_icmp_eq (tgt := 828) hx hb dL_law_694 (by decide) (fun _ => kk _ _ _ Y hl) (fun cq => absurd rfl cq)
set_option maxHeartbeats 4000000 in
set_option maxRecDepth 100000 in
theorem l_case_19 (X : Cx gX p s m #[Value.ref b] meth c cL_law 4 RL ret) (X2 : Cx gM p s m #[Value.ref b] meth c cL_law 4 RL ret) (hXs : va_X b L xs s s.heap) (hbl : b < s.heap.size) (Y : H2 gX gM (fun q : Nat => s.heap.size ≤ q) s.heap sx sm H locs) (hl : lv_has ls 4 [(0, .ref b), (1, .ref (gX.2.1 0)), (2, .ref (gM.2.1 0)), (3, .int i)]) (hcs : cells ≤ room_1.cells ∧ slots ≤ room_1.slots)  {r9 : Int32} {sx9 : Sg} {sm9 : Sg} (hX : X7_rule sx = some (r9, sx9)) (hM : X8_rule sm = some (r9, sm9))
    (kk : ∀ (ls : Array Slot) (H : Heap) (locs : List Loc), H2 gX gM (fun q : Nat => s.heap.size ≤ q) s.heap sx9 sm9 H locs → lv_has ls 4 [(0, .ref b), (1, .ref (gX.2.1 0)), (2, .ref (gM.2.1 0)), (3, .int i)] → W p l e room_1 s m #[Value.ref b] below meth c H locs cells slots Q (F0 m 828 ls [])) : W p l e room_1 s m #[Value.ref b] below meth c H locs cells slots Q (F0 m 699 ls []) := by
  have hx := X.1
  have hb := X.2.1
  have hbA : ¬ (fun q : Nat => s.heap.size ≤ q) b := Nat.not_le.mpr hbl
  refine lv_aload_n hx hb dL_law_699 rfl (lv_at hl 1 rfl) ?_
  refine l_cXI Y (k_runV (As := []) (rest := []) (o := 0) X Y.1 cl_L_96 (c_X7_rule l hX _) ⟨rfl, rfl, Nat.le_of_ble_eq_true rfl, Nat.le_of_ble_eq_true rfl⟩ (Nat.le_of_ble_eq_true rfl) rfl rfl hl.1 rfl (Nat.le_of_ble_eq_true rfl) dL_law_700 ⟨hcs.1, hcs.2⟩) (fun H locs Y => ?_)
  refine lv_aload_n hx hb dL_law_703 rfl (lv_at hl 2 rfl) ?_
  refine l_cMI Y (k_runV (As := []) (rest := [.int r9]) (o := 0) X2 Y.2.1 cl_L_99 (c_X8_rule l hM _) ⟨rfl, rfl, Nat.le_of_ble_eq_true rfl, Nat.le_of_ble_eq_true rfl⟩ (Nat.le_of_ble_eq_true rfl) rfl rfl hl.1 rfl (Nat.le_of_ble_eq_true rfl) dL_law_704 ⟨hcs.1, hcs.2⟩) (fun H locs Y => ?_)
  exact lv_icmp_eq (tgt := 828) hx hb dL_law_707 (by decide) (fun _ => kk _ _ _ Y hl) (fun cq => absurd rfl cq)
set_option maxHeartbeats 4000000 in
set_option maxRecDepth 100000 in
theorem l_case_20 (X : Cx gX p s m #[Value.ref b] meth c cL_law 4 RL ret) (X2 : Cx gM p s m #[Value.ref b] meth c cL_law 4 RL ret) (hXs : va_X b L xs s s.heap) (hbl : b < s.heap.size) (Y : H2 gX gM (fun q : Nat => s.heap.size ≤ q) s.heap sx sm H locs) (hl : lv_has ls 4 [(0, .ref b), (1, .ref (gX.2.1 0)), (2, .ref (gM.2.1 0)), (3, .int i)]) (hcs : cells ≤ room_1.cells ∧ slots ≤ room_1.slots) (i1 : vp_in (i + 1) L) (i2 : vp_in (i + 2) L) {r9 : Int32}  (hX : X7_asks (xs (i + 1).toNatClampNeg) (xs (i + 2).toNatClampNeg) sx = some r9) (hM : X8_asks (xs (i + 1).toNatClampNeg) (xs (i + 2).toNatClampNeg) sm = some r9)
    (kk : ∀ (ls : Array Slot) (H : Heap) (locs : List Loc), H2 gX gM (fun q : Nat => s.heap.size ≤ q) s.heap sx sm H locs → lv_has ls 4 [(0, .ref b), (1, .ref (gX.2.1 0)), (2, .ref (gM.2.1 0)), (3, .int i)] → W p l e room_1 s m #[Value.ref b] below meth c H locs cells slots Q (F0 m 828 ls [])) : W p l e room_1 s m #[Value.ref b] below meth c H locs cells slots Q (F0 m 712 ls []) := by
  have hx := X.1
  have hb := X.2.1
  have hbA : ¬ (fun q : Nat => s.heap.size ≤ q) b := Nat.not_le.mpr hbl
  refine lv_aload_n hx hb dL_law_712 rfl (lv_at hl 1 rfl) ?_
  refine lv_aload_n hx hb dL_law_713 rfl (lv_at hl 0 rfl) ?_
  refine lv_iload_n hx hb dL_law_714 rfl (lv_at hl 3 rfl) ?_
  refine lv_iconst (v := 1) hx hb dL_law_715 (by decide) ?_
  refine lv_iadd hx hb dL_law_716 ?_
  refine va_sld hx hb hXs hbl hbA Y.1.2.2.1 i1 dL_law_717 ?_
  refine lv_aload_n hx hb dL_law_718 rfl (lv_at hl 0 rfl) ?_
  refine lv_iload_n hx hb dL_law_719 rfl (lv_at hl 3 rfl) ?_
  refine lv_iconst (v := 2) hx hb dL_law_720 (by decide) ?_
  refine lv_iadd hx hb dL_law_721 ?_
  refine va_sld hx hb hXs hbl hbA Y.1.2.2.1 i2 dL_law_722 ?_
  refine l_cXI Y (k_runV (As := [.int (xs (i + 1).toNatClampNeg), .int (xs (i + 2).toNatClampNeg)]) (rest := []) (o := 0) X Y.1 cl_L_100 (c_X7_asks l hX _) ⟨rfl, rfl, Nat.le_of_ble_eq_true rfl, Nat.le_of_ble_eq_true rfl⟩ (Nat.le_of_ble_eq_true rfl) rfl rfl hl.1 rfl (Nat.le_of_ble_eq_true rfl) dL_law_723 ⟨hcs.1, hcs.2⟩) (fun H locs Y => ?_)
  refine lv_aload_n hx hb dL_law_726 rfl (lv_at hl 2 rfl) ?_
  refine lv_aload_n hx hb dL_law_727 rfl (lv_at hl 0 rfl) ?_
  refine lv_iload_n hx hb dL_law_728 rfl (lv_at hl 3 rfl) ?_
  refine lv_iconst (v := 1) hx hb dL_law_729 (by decide) ?_
  refine lv_iadd hx hb dL_law_730 ?_
  refine va_sld hx hb hXs hbl hbA Y.1.2.2.1 i1 dL_law_731 ?_
  refine lv_aload_n hx hb dL_law_732 rfl (lv_at hl 0 rfl) ?_
  refine lv_iload_n hx hb dL_law_733 rfl (lv_at hl 3 rfl) ?_
  refine lv_iconst (v := 2) hx hb dL_law_734 (by decide) ?_
  refine lv_iadd hx hb dL_law_735 ?_
  refine va_sld hx hb hXs hbl hbA Y.1.2.2.1 i2 dL_law_736 ?_
  refine l_cMI Y (k_runV (As := [.int (xs (i + 1).toNatClampNeg), .int (xs (i + 2).toNatClampNeg)]) (rest := [.int r9]) (o := 0) X2 Y.2.1 cl_L_103 (c_X8_asks l hM _) ⟨rfl, rfl, Nat.le_of_ble_eq_true rfl, Nat.le_of_ble_eq_true rfl⟩ (Nat.le_of_ble_eq_true rfl) rfl rfl hl.1 rfl (Nat.le_of_ble_eq_true rfl) dL_law_737 ⟨hcs.1, hcs.2⟩) (fun H locs Y => ?_)
  exact lv_icmp_eq (tgt := 828) hx hb dL_law_740 (by decide) (fun _ => kk _ _ _ Y hl) (fun cq => absurd rfl cq)
set_option maxHeartbeats 4000000 in
set_option maxRecDepth 100000 in
theorem l_case_21 (X : Cx gX p s m #[Value.ref b] meth c cL_law 4 RL ret) (X2 : Cx gM p s m #[Value.ref b] meth c cL_law 4 RL ret) (hXs : va_X b L xs s s.heap) (hbl : b < s.heap.size) (Y : H2 gX gM (fun q : Nat => s.heap.size ≤ q) s.heap sx sm H locs) (hl : lv_has ls 4 [(0, .ref b), (1, .ref (gX.2.1 0)), (2, .ref (gM.2.1 0)), (3, .int i)]) (hcs : cells ≤ room_1.cells ∧ slots ≤ room_1.slots) (i1 : vp_in (i + 1) L) {r9 : Int64} {sx9 : Sg} {sm9 : Sg} (hX : X7_boy (xs (i + 1).toNatClampNeg) sx = some (r9, sx9)) (hM : X8_boy (xs (i + 1).toNatClampNeg) sm = some (r9, sm9))
    (kk : ∀ (ls : Array Slot) (H : Heap) (locs : List Loc), H2 gX gM (fun q : Nat => s.heap.size ≤ q) s.heap sx9 sm9 H locs → lv_has ls 4 [(0, .ref b), (1, .ref (gX.2.1 0)), (2, .ref (gM.2.1 0)), (3, .int i)] → W p l e room_1 s m #[Value.ref b] below meth c H locs cells slots Q (F0 m 828 ls [])) : W p l e room_1 s m #[Value.ref b] below meth c H locs cells slots Q (F0 m 745 ls []) := by
  have hx := X.1
  have hb := X.2.1
  have hbA : ¬ (fun q : Nat => s.heap.size ≤ q) b := Nat.not_le.mpr hbl
  refine lv_aload_n hx hb dL_law_745 rfl (lv_at hl 1 rfl) ?_
  refine lv_aload_n hx hb dL_law_746 rfl (lv_at hl 0 rfl) ?_
  refine lv_iload_n hx hb dL_law_747 rfl (lv_at hl 3 rfl) ?_
  refine lv_iconst (v := 1) hx hb dL_law_748 (by decide) ?_
  refine lv_iadd hx hb dL_law_749 ?_
  refine va_sld hx hb hXs hbl hbA Y.1.2.2.1 i1 dL_law_750 ?_
  refine l_cXJ Y (k_runV (As := [.int (xs (i + 1).toNatClampNeg)]) (rest := []) (o := 0) X Y.1 cl_L_104 (c_X7_boy l hX _) ⟨rfl, rfl, Nat.le_of_ble_eq_true rfl, Nat.le_of_ble_eq_true rfl⟩ (Nat.le_of_ble_eq_true rfl) rfl rfl hl.1 rfl (Nat.le_of_ble_eq_true rfl) dL_law_751 ⟨hcs.1, hcs.2⟩) (fun H locs Y => ?_)
  refine lv_aload_n hx hb dL_law_754 rfl (lv_at hl 2 rfl) ?_
  refine lv_aload_n hx hb dL_law_755 rfl (lv_at hl 0 rfl) ?_
  refine lv_iload_n hx hb dL_law_756 rfl (lv_at hl 3 rfl) ?_
  refine lv_iconst (v := 1) hx hb dL_law_757 (by decide) ?_
  refine lv_iadd hx hb dL_law_758 ?_
  refine va_sld hx hb hXs hbl hbA Y.1.2.2.1 i1 dL_law_759 ?_
  refine l_cMJ Y (k_runV (As := [.int (xs (i + 1).toNatClampNeg)]) (rest := [.long r9]) (o := 0) X2 Y.2.1 cl_L_107 (c_X8_boy l hM _) ⟨rfl, rfl, Nat.le_of_ble_eq_true rfl, Nat.le_of_ble_eq_true rfl⟩ (Nat.le_of_ble_eq_true rfl) rfl rfl hl.1 rfl (Nat.le_of_ble_eq_true rfl) dL_law_760 ⟨hcs.1, hcs.2⟩) (fun H locs Y => ?_)
  refine W.lcmp hx hb dL_law_763 ?_
  exact lv_if_eq (tgt := 828) hx hb dL_law_764 (by decide) (fun _ => kk _ _ _ Y hl) (fun cq => absurd (by simp [lg_cmp]) cq)
set_option maxHeartbeats 4000000 in
set_option maxRecDepth 100000 in
theorem l_case_22 (X : Cx gX p s m #[Value.ref b] meth c cL_law 4 RL ret) (X2 : Cx gM p s m #[Value.ref b] meth c cL_law 4 RL ret) (hXs : va_X b L xs s s.heap) (hbl : b < s.heap.size) (Y : H2 gX gM (fun q : Nat => s.heap.size ≤ q) s.heap sx sm H locs) (hl : lv_has ls 4 [(0, .ref b), (1, .ref (gX.2.1 0)), (2, .ref (gM.2.1 0)), (3, .int i)]) (hcs : cells ≤ room_1.cells ∧ slots ≤ room_1.slots)  {r9 : Int32} {sx9 : Sg} {sm9 : Sg} (hX : X7_worst sx = some (r9, sx9)) (hM : X8_worst sm = some (r9, sm9))
    (kk : ∀ (ls : Array Slot) (H : Heap) (locs : List Loc), H2 gX gM (fun q : Nat => s.heap.size ≤ q) s.heap sx9 sm9 H locs → lv_has ls 4 [(0, .ref b), (1, .ref (gX.2.1 0)), (2, .ref (gM.2.1 0)), (3, .int i)] → W p l e room_1 s m #[Value.ref b] below meth c H locs cells slots Q (F0 m 828 ls [])) : W p l e room_1 s m #[Value.ref b] below meth c H locs cells slots Q (F0 m 769 ls []) := by
  have hx := X.1
  have hb := X.2.1
  have hbA : ¬ (fun q : Nat => s.heap.size ≤ q) b := Nat.not_le.mpr hbl
  refine lv_aload_n hx hb dL_law_769 rfl (lv_at hl 1 rfl) ?_
  refine l_cXI Y (k_runV (As := []) (rest := []) (o := 0) X Y.1 cl_L_108 (c_X7_worst l hX _) ⟨rfl, rfl, Nat.le_of_ble_eq_true rfl, Nat.le_of_ble_eq_true rfl⟩ (Nat.le_of_ble_eq_true rfl) rfl rfl hl.1 rfl (Nat.le_of_ble_eq_true rfl) dL_law_770 ⟨hcs.1, hcs.2⟩) (fun H locs Y => ?_)
  refine lv_aload_n hx hb dL_law_773 rfl (lv_at hl 2 rfl) ?_
  refine l_cMI Y (k_runV (As := []) (rest := [.int r9]) (o := 0) X2 Y.2.1 cl_L_111 (c_X8_worst l hM _) ⟨rfl, rfl, Nat.le_of_ble_eq_true rfl, Nat.le_of_ble_eq_true rfl⟩ (Nat.le_of_ble_eq_true rfl) rfl rfl hl.1 rfl (Nat.le_of_ble_eq_true rfl) dL_law_774 ⟨hcs.1, hcs.2⟩) (fun H locs Y => ?_)
  exact lv_icmp_eq (tgt := 828) hx hb dL_law_777 (by decide) (fun _ => kk _ _ _ Y hl) (fun cq => absurd rfl cq)
set_option maxHeartbeats 4000000 in
set_option maxRecDepth 100000 in
theorem l_case_23 (X : Cx gX p s m #[Value.ref b] meth c cL_law 4 RL ret) (X2 : Cx gM p s m #[Value.ref b] meth c cL_law 4 RL ret) (hXs : va_X b L xs s s.heap) (hbl : b < s.heap.size) (Y : H2 gX gM (fun q : Nat => s.heap.size ≤ q) s.heap sx sm H locs) (hl : lv_has ls 4 [(0, .ref b), (1, .ref (gX.2.1 0)), (2, .ref (gM.2.1 0)), (3, .int i)]) (hcs : cells ≤ room_1.cells ∧ slots ≤ room_1.slots) (i1 : vp_in (i + 1) L) {r9 : Int32} {sx9 : Sg} {sm9 : Sg} (hX : X7_edge (xs (i + 1).toNatClampNeg) sx = some (r9, sx9)) (hM : X8_edge (xs (i + 1).toNatClampNeg) sm = some (r9, sm9))
    (kk : ∀ (ls : Array Slot) (H : Heap) (locs : List Loc), H2 gX gM (fun q : Nat => s.heap.size ≤ q) s.heap sx9 sm9 H locs → lv_has ls 4 [(0, .ref b), (1, .ref (gX.2.1 0)), (2, .ref (gM.2.1 0)), (3, .int i)] → W p l e room_1 s m #[Value.ref b] below meth c H locs cells slots Q (F0 m 828 ls [])) : W p l e room_1 s m #[Value.ref b] below meth c H locs cells slots Q (F0 m 782 ls []) := by
  have hx := X.1
  have hb := X.2.1
  have hbA : ¬ (fun q : Nat => s.heap.size ≤ q) b := Nat.not_le.mpr hbl
  refine lv_aload_n hx hb dL_law_782 rfl (lv_at hl 1 rfl) ?_
  refine lv_aload_n hx hb dL_law_783 rfl (lv_at hl 0 rfl) ?_
  refine lv_iload_n hx hb dL_law_784 rfl (lv_at hl 3 rfl) ?_
  refine lv_iconst (v := 1) hx hb dL_law_785 (by decide) ?_
  refine lv_iadd hx hb dL_law_786 ?_
  refine va_sld hx hb hXs hbl hbA Y.1.2.2.1 i1 dL_law_787 ?_
  refine l_cXI Y (k_runV (As := [.int (xs (i + 1).toNatClampNeg)]) (rest := []) (o := 0) X Y.1 cl_L_112 (c_X7_edge l hX _) ⟨rfl, rfl, Nat.le_of_ble_eq_true rfl, Nat.le_of_ble_eq_true rfl⟩ (Nat.le_of_ble_eq_true rfl) rfl rfl hl.1 rfl (Nat.le_of_ble_eq_true rfl) dL_law_788 ⟨hcs.1, hcs.2⟩) (fun H locs Y => ?_)
  refine lv_aload_n hx hb dL_law_791 rfl (lv_at hl 2 rfl) ?_
  refine lv_aload_n hx hb dL_law_792 rfl (lv_at hl 0 rfl) ?_
  refine lv_iload_n hx hb dL_law_793 rfl (lv_at hl 3 rfl) ?_
  refine lv_iconst (v := 1) hx hb dL_law_794 (by decide) ?_
  refine lv_iadd hx hb dL_law_795 ?_
  refine va_sld hx hb hXs hbl hbA Y.1.2.2.1 i1 dL_law_796 ?_
  refine l_cMI Y (k_runV (As := [.int (xs (i + 1).toNatClampNeg)]) (rest := [.int r9]) (o := 0) X2 Y.2.1 cl_L_115 (c_X8_edge l hM _) ⟨rfl, rfl, Nat.le_of_ble_eq_true rfl, Nat.le_of_ble_eq_true rfl⟩ (Nat.le_of_ble_eq_true rfl) rfl rfl hl.1 rfl (Nat.le_of_ble_eq_true rfl) dL_law_797 ⟨hcs.1, hcs.2⟩) (fun H locs Y => ?_)
  exact lv_icmp_eq (tgt := 828) hx hb dL_law_800 (by decide) (fun _ => kk _ _ _ Y hl) (fun cq => absurd rfl cq)
set_option maxHeartbeats 4000000 in
set_option maxRecDepth 100000 in
theorem l_case_24 (X : Cx gX p s m #[Value.ref b] meth c cL_law 4 RL ret) (X2 : Cx gM p s m #[Value.ref b] meth c cL_law 4 RL ret) (hXs : va_X b L xs s s.heap) (hbl : b < s.heap.size) (Y : H2 gX gM (fun q : Nat => s.heap.size ≤ q) s.heap sx sm H locs) (hl : lv_has ls 4 [(0, .ref b), (1, .ref (gX.2.1 0)), (2, .ref (gM.2.1 0)), (3, .int i)]) (hcs : cells ≤ room_1.cells ∧ slots ≤ room_1.slots) (i1 : vp_in (i + 1) L) {r9 : Int32}  (hX : X7_told (xs (i + 1).toNatClampNeg) sx = some r9) (hM : X8_told (xs (i + 1).toNatClampNeg) sm = some r9)
    (kk : ∀ (ls : Array Slot) (H : Heap) (locs : List Loc), H2 gX gM (fun q : Nat => s.heap.size ≤ q) s.heap sx sm H locs → lv_has ls 4 [(0, .ref b), (1, .ref (gX.2.1 0)), (2, .ref (gM.2.1 0)), (3, .int i)] → W p l e room_1 s m #[Value.ref b] below meth c H locs cells slots Q (F0 m 828 ls [])) : W p l e room_1 s m #[Value.ref b] below meth c H locs cells slots Q (F0 m 805 ls []) := by
  have hx := X.1
  have hb := X.2.1
  have hbA : ¬ (fun q : Nat => s.heap.size ≤ q) b := Nat.not_le.mpr hbl
  refine lv_aload_n hx hb dL_law_805 rfl (lv_at hl 1 rfl) ?_
  refine lv_aload_n hx hb dL_law_806 rfl (lv_at hl 0 rfl) ?_
  refine lv_iload_n hx hb dL_law_807 rfl (lv_at hl 3 rfl) ?_
  refine lv_iconst (v := 1) hx hb dL_law_808 (by decide) ?_
  refine lv_iadd hx hb dL_law_809 ?_
  refine va_sld hx hb hXs hbl hbA Y.1.2.2.1 i1 dL_law_810 ?_
  refine l_cXI Y (k_runV (As := [.int (xs (i + 1).toNatClampNeg)]) (rest := []) (o := 0) X Y.1 cl_L_116 (c_X7_told l hX _) ⟨rfl, rfl, Nat.le_of_ble_eq_true rfl, Nat.le_of_ble_eq_true rfl⟩ (Nat.le_of_ble_eq_true rfl) rfl rfl hl.1 rfl (Nat.le_of_ble_eq_true rfl) dL_law_811 ⟨hcs.1, hcs.2⟩) (fun H locs Y => ?_)
  refine lv_aload_n hx hb dL_law_814 rfl (lv_at hl 2 rfl) ?_
  refine lv_aload_n hx hb dL_law_815 rfl (lv_at hl 0 rfl) ?_
  refine lv_iload_n hx hb dL_law_816 rfl (lv_at hl 3 rfl) ?_
  refine lv_iconst (v := 1) hx hb dL_law_817 (by decide) ?_
  refine lv_iadd hx hb dL_law_818 ?_
  refine va_sld hx hb hXs hbl hbA Y.1.2.2.1 i1 dL_law_819 ?_
  refine l_cMI Y (k_runV (As := [.int (xs (i + 1).toNatClampNeg)]) (rest := [.int r9]) (o := 0) X2 Y.2.1 cl_L_119 (c_X8_told l hM _) ⟨rfl, rfl, Nat.le_of_ble_eq_true rfl, Nat.le_of_ble_eq_true rfl⟩ (Nat.le_of_ble_eq_true rfl) rfl rfl hl.1 rfl (Nat.le_of_ble_eq_true rfl) dL_law_820 ⟨hcs.1, hcs.2⟩) (fun H locs Y => ?_)
  exact lv_icmp_eq (tgt := 828) hx hb dL_law_823 (by decide) (fun _ => kk _ _ _ Y hl) (fun cq => absurd rfl cq)

set_option maxHeartbeats 8000000 in
set_option maxRecDepth 100000 in
theorem l_head {Rel : Nat → Sg → Sg → Prop} (hS : StepOK Rel) (X : Cx gX p s m #[Value.ref b] meth c cL_law 4 RL ret) (X2 : Cx gM p s m #[Value.ref b] meth c cL_law 4 RL ret) (hXs : va_X b L xs s s.heap) (hbl : b < s.heap.size) (hlk : meth.locks = false) (hL : L ≤ 2048) (hcs : cells ≤ 600000 ∧ slots ≤ 7302250) {n : Nat} (hnb : n ≤ 512) (hi : i = nI (4 * n)) (hR : Rel n sx sm) (Y : H2 gX gM (fun q : Nat => s.heap.size ≤ q) s.heap sx sm H locs) (hl : lv_has ls 4 [(0, .ref b), (1, .ref (gX.2.1 0)), (2, .ref (gM.2.1 0)), (3, .int i)])
    (next : 4 * n + 4 ≤ L → ∀ (sx sm : Sg) (ls : Array Slot) (H : Heap) (locs : List Loc), Rel (n + 1) sx sm → H2 gX gM (fun q : Nat => s.heap.size ≤ q) s.heap sx sm H locs → lv_has ls 4 [(0, .ref b), (1, .ref (gX.2.1 0)), (2, .ref (gM.2.1 0)), (3, .int (nI (4 * (n + 1))))] → W p l e room_1 s m #[Value.ref b] below meth c H locs cells slots (lw_Z below #[Value.ref b] s) (F0 m 18 ls [])) :
    W p l e room_1 s m #[Value.ref b] below meth c H locs cells slots (lw_Z below #[Value.ref b] s) (F0 m 18 ls []) := by
  have hx := X.1
  have hb := X.2.1
  have hbA : ¬ (fun q : Nat => s.heap.size ≤ q) b := Nat.not_le.mpr hbl
  refine lv_iload_n hx hb dL_law_18 rfl (lv_at hl 3 rfl) ?_
  refine lv_aload_n hx hb dL_law_19 rfl (lv_at hl 0 rfl) ?_
  refine va_slen hx hb hXs hbl hbA Y.1.2.2.1 dL_law_20 ?_
  refine lv_iconst (v := 4) hx hb dL_law_21 (by decide) ?_
  refine lv_isub hx hb dL_law_22 ?_
  by_cases hlt : 4 * n + 4 ≤ L
  · have hL1 : (Int32.ofNat L - 4 : Int32) = nI (L - 4) := pk_sub (a := L) (b := 4) (by omega)
    have hno : ¬ (Int32.ofNat L - 4 : Int32) < i := by rw [hL1, hi]; exact nI_nlt (by omega) (by omega)
    have hn : n < 512 := by omega
    have iv : ∀ v : Nat, v < 4 → vp_in (i + nI v) L := fun v hv => by rw [hi, nI_add]; exact vp_in_nI (by omega) (by omega)
    have i0 : vp_in i L := by rw [hi]; exact vp_in_nI (by omega) (by omega)
    have i1 : vp_in (i + 1) L := iv 1 (by decide)
    have i2 : vp_in (i + 2) L := iv 2 (by decide)
    have i3 : vp_in (i + 3) L := iv 3 (by decide)
    refine lv_icmp_gt (tgt := 834) hx hb dL_law_23 (by decide) (fun c1 => absurd c1 hno) (fun _ => ?_)
    refine lv_aload_n hx hb dL_law_26 rfl (lv_at hl 0 rfl) ?_
    refine lv_iload_n hx hb dL_law_27 rfl (lv_at hl 3 rfl) ?_
    refine va_sld hx hb hXs hbl hbA Y.1.2.2.1 i0 dL_law_28 ?_
    refine lv_bipush (v := 31) hx hb dL_law_29 (by decide) ?_
    refine lv_iand hx hb dL_law_31 ?_
    have tail : ∀ (sx sm : Sg) (ls : Array Slot) (H : Heap) (locs : List Loc), Rel (n + 1) sx sm → H2 gX gM (fun q : Nat => s.heap.size ≤ q) s.heap sx sm H locs → lv_has ls 4 [(0, .ref b), (1, .ref (gX.2.1 0)), (2, .ref (gM.2.1 0)), (3, .int i)] → W p l e room_1 s m #[Value.ref b] below meth c H locs cells slots (lw_Z below #[Value.ref b] s) (F0 m 828 ls []) := by
      intro sx sm ls H locs hR Y hl
      refine lv_iinc (v := nI (4 * (n + 1))) (lv' := [(3, .int (nI (4 * (n + 1)))), (0, .ref b), (1, .ref (gX.2.1 0)), (2, .ref (gM.2.1 0))]) hx hb dL_law_828 hl (k := 3) rfl (by rw [hi]; exact nI_add (4 * n) 4) (by decide) rfl (fun ls hl => ?_)
      refine lv_goto (tgt := 18) hx hb dL_law_831 (by decide) ?_
      exact next hlt _ _ _ _ _ hR Y (lv_sub hl [1, 2, 3, 0] rfl)
    obtain ⟨w, hw⟩ : ∃ w, w = xs i.toNatClampNeg &&& 31 := ⟨_, rfl⟩
    refine k_nmI hw ?_
    by_cases c0 : w = (0 : Int32)
    · refine lv_tableIn (tgt := 148) hx hb dL_law_32 (by rw [c0]; decide) (by rw [c0]; decide) (by rw [c0]; rfl) (by decide) ?_
      obtain ⟨r9, sx9, sm9, e1, e2, e3⟩ := hS.2.1 n sx sm (xs (i + 1).toNatClampNeg) (xs (i + 2).toNatClampNeg) hn hR
      exact l_case_0 X X2 hXs hbl Y hl hcs i1 i2 e1 e2 (fun ls H locs Y hl => tail _ _ _ _ _ e3 Y hl)
    by_cases c1 : w = (1 : Int32)
    · refine lv_tableIn (tgt := 181) hx hb dL_law_32 (by rw [c1]; decide) (by rw [c1]; decide) (by rw [c1]; rfl) (by decide) ?_
      obtain ⟨r9, sx9, sm9, e1, e2, e3⟩ := hS.2.2.1 n sx sm (xs (i + 1).toNatClampNeg) hn hR
      exact l_case_1 X X2 hXs hbl Y hl hcs i1 e1 e2 (fun ls H locs Y hl => tail _ _ _ _ _ e3 Y hl)
    by_cases c2 : w = (2 : Int32)
    · refine lv_tableIn (tgt := 204) hx hb dL_law_32 (by rw [c2]; decide) (by rw [c2]; decide) (by rw [c2]; rfl) (by decide) ?_
      obtain ⟨r9, sx9, sm9, e1, e2, e3⟩ := hS.2.2.2.1 n sx sm (xs (i + 1).toNatClampNeg) (xs (i + 2).toNatClampNeg) (xs (i + 3).toNatClampNeg) hn hR
      exact l_case_2 X X2 hXs hbl Y hl hcs i1 i2 i3 e1 e2 (fun ls H locs Y hl => tail _ _ _ _ _ e3 Y hl)
    by_cases c3 : w = (3 : Int32)
    · refine lv_tableIn (tgt := 247) hx hb dL_law_32 (by rw [c3]; decide) (by rw [c3]; decide) (by rw [c3]; rfl) (by decide) ?_
      obtain ⟨r9, sx9, sm9, e1, e2, e3⟩ := hS.2.2.2.2.1 n sx sm (xs (i + 1).toNatClampNeg) (xs (i + 2).toNatClampNeg) (xs (i + 3).toNatClampNeg) hn hR
      exact l_case_3 X X2 hXs hbl Y hl hcs i1 i2 i3 e1 e2 (fun ls H locs Y hl => tail _ _ _ _ _ e3 Y hl)
    by_cases c4 : w = (4 : Int32)
    · refine lv_tableIn (tgt := 290) hx hb dL_law_32 (by rw [c4]; decide) (by rw [c4]; decide) (by rw [c4]; rfl) (by decide) ?_
      obtain ⟨r9, e1, e2, e3⟩ := hS.2.2.2.2.2.1 n sx sm (xs (i + 1).toNatClampNeg) (xs (i + 2).toNatClampNeg) hn hR
      exact l_case_4 X X2 hXs hbl Y hl hcs i1 i2 e1 e2 (fun ls H locs Y hl => tail _ _ _ _ _ e3 Y hl)
    by_cases c5 : w = (5 : Int32)
    · refine lv_tableIn (tgt := 323) hx hb dL_law_32 (by rw [c5]; decide) (by rw [c5]; decide) (by rw [c5]; rfl) (by decide) ?_
      obtain ⟨r9, sx9, sm9, e1, e2, e3⟩ := hS.2.2.2.2.2.2.1 n sx sm (xs (i + 1).toNatClampNeg) (xs (i + 2).toNatClampNeg) hn hR
      exact l_case_5 X X2 hXs hbl Y hl hcs i1 i2 e1 e2 (fun ls H locs Y hl => tail _ _ _ _ _ e3 Y hl)
    by_cases c6 : w = (6 : Int32)
    · refine lv_tableIn (tgt := 356) hx hb dL_law_32 (by rw [c6]; decide) (by rw [c6]; decide) (by rw [c6]; rfl) (by decide) ?_
      obtain ⟨r9, sx9, sm9, e1, e2, e3⟩ := hS.2.2.2.2.2.2.2.1 n sx sm (xs (i + 1).toNatClampNeg) hn hR
      exact l_case_6 X X2 hXs hbl Y hl hcs i1 e1 e2 (fun ls H locs Y hl => tail _ _ _ _ _ e3 Y hl)
    by_cases c7 : w = (7 : Int32)
    · refine lv_tableIn (tgt := 380) hx hb dL_law_32 (by rw [c7]; decide) (by rw [c7]; decide) (by rw [c7]; rfl) (by decide) ?_
      obtain ⟨r9, sx9, sm9, e1, e2, e3⟩ := hS.2.2.2.2.2.2.2.2.1 n sx sm (xs (i + 1).toNatClampNeg) (xs (i + 2).toNatClampNeg) hn hR
      exact l_case_7 X X2 hXs hbl Y hl hcs i1 i2 e1 e2 (fun ls H locs Y hl => tail _ _ _ _ _ e3 Y hl)
    by_cases c8 : w = (8 : Int32)
    · refine lv_tableIn (tgt := 414) hx hb dL_law_32 (by rw [c8]; decide) (by rw [c8]; decide) (by rw [c8]; rfl) (by decide) ?_
      obtain ⟨r9, sx9, sm9, e1, e2, e3⟩ := hS.2.2.2.2.2.2.2.2.2.1 n sx sm (xs (i + 1).toNatClampNeg) (xs (i + 2).toNatClampNeg) hn hR
      exact l_case_8 X X2 hXs hbl Y hl hcs i1 i2 e1 e2 (fun ls H locs Y hl => tail _ _ _ _ _ e3 Y hl)
    by_cases c9 : w = (9 : Int32)
    · refine lv_tableIn (tgt := 447) hx hb dL_law_32 (by rw [c9]; decide) (by rw [c9]; decide) (by rw [c9]; rfl) (by decide) ?_
      obtain ⟨r9, sx9, sm9, e1, e2, e3⟩ := hS.2.2.2.2.2.2.2.2.2.2.1 n sx sm (xs (i + 1).toNatClampNeg) (xs (i + 2).toNatClampNeg) (xs (i + 3).toNatClampNeg) hn hR
      exact l_case_9 X X2 hXs hbl Y hl hcs i1 i2 i3 e1 e2 (fun ls H locs Y hl => tail _ _ _ _ _ e3 Y hl)
    by_cases c10 : w = (10 : Int32)
    · refine lv_tableIn (tgt := 491) hx hb dL_law_32 (by rw [c10]; decide) (by rw [c10]; decide) (by rw [c10]; rfl) (by decide) ?_
      obtain ⟨r9, sx9, sm9, e1, e2, e3⟩ := hS.2.2.2.2.2.2.2.2.2.2.2.1 n sx sm (xs (i + 1).toNatClampNeg) hn hR
      exact l_case_10 X X2 hXs hbl Y hl hcs i1 e1 e2 (fun ls H locs Y hl => tail _ _ _ _ _ e3 Y hl)
    by_cases c11 : w = (11 : Int32)
    · refine lv_tableIn (tgt := 514) hx hb dL_law_32 (by rw [c11]; decide) (by rw [c11]; decide) (by rw [c11]; rfl) (by decide) ?_
      obtain ⟨r9, sx9, sm9, e1, e2, e3⟩ := hS.2.2.2.2.2.2.2.2.2.2.2.2.1 n sx sm (xs (i + 1).toNatClampNeg) (xs (i + 2).toNatClampNeg) hn hR
      exact l_case_11 X X2 hXs hbl Y hl hcs i1 i2 e1 e2 (fun ls H locs Y hl => tail _ _ _ _ _ e3 Y hl)
    by_cases c12 : w = (12 : Int32)
    · refine lv_tableIn (tgt := 547) hx hb dL_law_32 (by rw [c12]; decide) (by rw [c12]; decide) (by rw [c12]; rfl) (by decide) ?_
      obtain ⟨r9, sx9, sm9, e1, e2, e3⟩ := hS.2.2.2.2.2.2.2.2.2.2.2.2.2.1 n sx sm (xs (i + 1).toNatClampNeg) (xs (i + 2).toNatClampNeg) hn hR
      exact l_case_12 X X2 hXs hbl Y hl hcs i1 i2 e1 e2 (fun ls H locs Y hl => tail _ _ _ _ _ e3 Y hl)
    by_cases c13 : w = (13 : Int32)
    · refine lv_tableIn (tgt := 581) hx hb dL_law_32 (by rw [c13]; decide) (by rw [c13]; decide) (by rw [c13]; rfl) (by decide) ?_
      obtain ⟨r9, sx9, sm9, e1, e2, e3⟩ := hS.2.2.2.2.2.2.2.2.2.2.2.2.2.2.1 n sx sm  hn hR
      exact l_case_13 X X2 hXs hbl Y hl hcs  e1 e2 (fun ls H locs Y hl => tail _ _ _ _ _ e3 Y hl)
    by_cases c14 : w = (14 : Int32)
    · refine lv_tableIn (tgt := 594) hx hb dL_law_32 (by rw [c14]; decide) (by rw [c14]; decide) (by rw [c14]; rfl) (by decide) ?_
      obtain ⟨r9, sm9, e1, e2, e3⟩ := hS.2.2.2.2.2.2.2.2.2.2.2.2.2.2.2.1 n sx sm (xs (i + 1).toNatClampNeg) (xs (i + 2).toNatClampNeg) hn hR
      exact l_case_14 X X2 hXs hbl Y hl hcs i1 i2 e1 e2 (fun ls H locs Y hl => tail _ _ _ _ _ e3 Y hl)
    by_cases c15 : w = (15 : Int32)
    · refine lv_tableIn (tgt := 627) hx hb dL_law_32 (by rw [c15]; decide) (by rw [c15]; decide) (by rw [c15]; rfl) (by decide) ?_
      obtain ⟨r9, sx9, sm9, e1, e2, e3⟩ := hS.2.2.2.2.2.2.2.2.2.2.2.2.2.2.2.2.1 n sx sm (xs (i + 1).toNatClampNeg) hn hR
      exact l_case_15 X X2 hXs hbl Y hl hcs i1 e1 e2 (fun ls H locs Y hl => tail _ _ _ _ _ e3 Y hl)
    by_cases c16 : w = (16 : Int32)
    · refine lv_tableIn (tgt := 650) hx hb dL_law_32 (by rw [c16]; decide) (by rw [c16]; decide) (by rw [c16]; rfl) (by decide) ?_
      obtain ⟨r9, sx9, sm9, e1, e2, e3⟩ := hS.2.2.2.2.2.2.2.2.2.2.2.2.2.2.2.2.2.1 n sx sm (xs (i + 1).toNatClampNeg) hn hR
      exact l_case_16 X X2 hXs hbl Y hl hcs i1 e1 e2 (fun ls H locs Y hl => tail _ _ _ _ _ e3 Y hl)
    by_cases c17 : w = (17 : Int32)
    · refine lv_tableIn (tgt := 673) hx hb dL_law_32 (by rw [c17]; decide) (by rw [c17]; decide) (by rw [c17]; rfl) (by decide) ?_
      obtain ⟨r9, sx9, sm9, e1, e2, e3⟩ := hS.2.2.2.2.2.2.2.2.2.2.2.2.2.2.2.2.2.2.1 n sx sm  hn hR
      exact l_case_17 X X2 hXs hbl Y hl hcs  e1 e2 (fun ls H locs Y hl => tail _ _ _ _ _ e3 Y hl)
    by_cases c18 : w = (18 : Int32)
    · refine lv_tableIn (tgt := 686) hx hb dL_law_32 (by rw [c18]; decide) (by rw [c18]; decide) (by rw [c18]; rfl) (by decide) ?_
      obtain ⟨r9, e1, e2, e3⟩ := hS.2.2.2.2.2.2.2.2.2.2.2.2.2.2.2.2.2.2.2.1 n sx sm  hn hR
      exact l_case_18 X X2 hXs hbl Y hl hcs  e1 e2 (fun ls H locs Y hl => tail _ _ _ _ _ e3 Y hl)
    by_cases c19 : w = (19 : Int32)
    · refine lv_tableIn (tgt := 699) hx hb dL_law_32 (by rw [c19]; decide) (by rw [c19]; decide) (by rw [c19]; rfl) (by decide) ?_
      obtain ⟨r9, sx9, sm9, e1, e2, e3⟩ := hS.2.2.2.2.2.2.2.2.2.2.2.2.2.2.2.2.2.2.2.2.1 n sx sm  hn hR
      exact l_case_19 X X2 hXs hbl Y hl hcs  e1 e2 (fun ls H locs Y hl => tail _ _ _ _ _ e3 Y hl)
    by_cases c20 : w = (20 : Int32)
    · refine lv_tableIn (tgt := 712) hx hb dL_law_32 (by rw [c20]; decide) (by rw [c20]; decide) (by rw [c20]; rfl) (by decide) ?_
      obtain ⟨r9, e1, e2, e3⟩ := hS.2.2.2.2.2.2.2.2.2.2.2.2.2.2.2.2.2.2.2.2.2.1 n sx sm (xs (i + 1).toNatClampNeg) (xs (i + 2).toNatClampNeg) hn hR
      exact l_case_20 X X2 hXs hbl Y hl hcs i1 i2 e1 e2 (fun ls H locs Y hl => tail _ _ _ _ _ e3 Y hl)
    by_cases c21 : w = (21 : Int32)
    · refine lv_tableIn (tgt := 745) hx hb dL_law_32 (by rw [c21]; decide) (by rw [c21]; decide) (by rw [c21]; rfl) (by decide) ?_
      obtain ⟨r9, sx9, sm9, e1, e2, e3⟩ := hS.2.2.2.2.2.2.2.2.2.2.2.2.2.2.2.2.2.2.2.2.2.2.1 n sx sm (xs (i + 1).toNatClampNeg) hn hR
      exact l_case_21 X X2 hXs hbl Y hl hcs i1 e1 e2 (fun ls H locs Y hl => tail _ _ _ _ _ e3 Y hl)
    by_cases c22 : w = (22 : Int32)
    · refine lv_tableIn (tgt := 769) hx hb dL_law_32 (by rw [c22]; decide) (by rw [c22]; decide) (by rw [c22]; rfl) (by decide) ?_
      obtain ⟨r9, sx9, sm9, e1, e2, e3⟩ := hS.2.2.2.2.2.2.2.2.2.2.2.2.2.2.2.2.2.2.2.2.2.2.2.1 n sx sm  hn hR
      exact l_case_22 X X2 hXs hbl Y hl hcs  e1 e2 (fun ls H locs Y hl => tail _ _ _ _ _ e3 Y hl)
    by_cases c23 : w = (23 : Int32)
    · refine lv_tableIn (tgt := 782) hx hb dL_law_32 (by rw [c23]; decide) (by rw [c23]; decide) (by rw [c23]; rfl) (by decide) ?_
      obtain ⟨r9, sx9, sm9, e1, e2, e3⟩ := hS.2.2.2.2.2.2.2.2.2.2.2.2.2.2.2.2.2.2.2.2.2.2.2.2.1 n sx sm (xs (i + 1).toNatClampNeg) hn hR
      exact l_case_23 X X2 hXs hbl Y hl hcs i1 e1 e2 (fun ls H locs Y hl => tail _ _ _ _ _ e3 Y hl)
    by_cases c24 : w = (24 : Int32)
    · refine lv_tableIn (tgt := 805) hx hb dL_law_32 (by rw [c24]; decide) (by rw [c24]; decide) (by rw [c24]; rfl) (by decide) ?_
      obtain ⟨r9, e1, e2, e3⟩ := hS.2.2.2.2.2.2.2.2.2.2.2.2.2.2.2.2.2.2.2.2.2.2.2.2.2 n sx sm (xs (i + 1).toNatClampNeg) hn hR
      exact l_case_24 X X2 hXs hbl Y hl hcs i1 e1 e2 (fun ls H locs Y hl => tail _ _ _ _ _ e3 Y hl)
    refine lv_tableOut (tgt := 828) hx hb dL_law_32 (by have q0 := lv_neT c0 (a := 0) (by decide); have q1 := lv_neT c1 (a := 1) (by decide); have q2 := lv_neT c2 (a := 2) (by decide); have q3 := lv_neT c3 (a := 3) (by decide); have q4 := lv_neT c4 (a := 4) (by decide); have q5 := lv_neT c5 (a := 5) (by decide); have q6 := lv_neT c6 (a := 6) (by decide); have q7 := lv_neT c7 (a := 7) (by decide); have q8 := lv_neT c8 (a := 8) (by decide); have q9 := lv_neT c9 (a := 9) (by decide); have q10 := lv_neT c10 (a := 10) (by decide); have q11 := lv_neT c11 (a := 11) (by decide); have q12 := lv_neT c12 (a := 12) (by decide); have q13 := lv_neT c13 (a := 13) (by decide); have q14 := lv_neT c14 (a := 14) (by decide); have q15 := lv_neT c15 (a := 15) (by decide); have q16 := lv_neT c16 (a := 16) (by decide); have q17 := lv_neT c17 (a := 17) (by decide); have q18 := lv_neT c18 (a := 18) (by decide); have q19 := lv_neT c19 (a := 19) (by decide); have q20 := lv_neT c20 (a := 20) (by decide); have q21 := lv_neT c21 (a := 21) (by decide); have q22 := lv_neT c22 (a := 22) (by decide); have q23 := lv_neT c23 (a := 23) (by decide); have q24 := lv_neT c24 (a := 24) (by decide); omega) (by decide) ?_
    exact tail _ _ _ _ _ (hS.1 n sx sm hn hR) Y hl
  · have hyes : (Int32.ofNat L - 4 : Int32) < i := by
      have e1 : (Int32.ofNat L - 4 : Int32).toInt = (L : Int) - 4 := pk_sub_toInt (a := L) (b := 4) (by omega) (by decide)
      rw [Int32.lt_iff_toInt_lt, e1, hi]
      by_cases h9 : 4 * n < 2 ^ 31
      · rw [nI_toInt h9]; omega
      · exact absurd hnb (by omega)
    refine lv_icmp_gt (tgt := 834) hx hb dL_law_23 (by decide) (fun _ => ?_) (fun c1 => absurd hyes c1)
    refine lv_iconst (v := 1) hx hb dL_law_834 (by decide) ?_
    refine va_forget (fun q hq => Y.1.2.2.1.2.2 q hq) ?_
    refine W.widen (k := 600000) (n := 7302250) hcs.1 hcs.2 ?_
    exact lw_ret hx hb X.2.2.2.2.2.2.2.2 hlk dL_law_835
theorem l_loop {Rel : Nat → Sg → Sg → Prop} (hS : StepOK Rel) (X : Cx gX p s m #[Value.ref b] meth c cL_law 4 RL ret) (X2 : Cx gM p s m #[Value.ref b] meth c cL_law 4 RL ret) (hXs : va_X b L xs s s.heap) (hbl : b < s.heap.size) (hlk : meth.locks = false) (hL : L ≤ 2048) (hcs : cells ≤ 600000 ∧ slots ≤ 7302250) : ∀ (k n : Nat) (sx sm : Sg) (ls : Array Slot) (H : Heap) (locs : List Loc), L < 4 * n + 4 * k + 4 → n ≤ 512 → Rel n sx sm → H2 gX gM (fun q : Nat => s.heap.size ≤ q) s.heap sx sm H locs → lv_has ls 4 [(0, .ref b), (1, .ref (gX.2.1 0)), (2, .ref (gM.2.1 0)), (3, .int (nI (4 * n)))] →
    W p l e room_1 s m #[Value.ref b] below meth c H locs cells slots (lw_Z below #[Value.ref b] s) (F0 m 18 ls []) := by
  intro k
  induction k with
  | zero =>
    intro n sx sm ls H locs hk hn hR Y hl
    exact l_head hS X X2 hXs hbl hlk hL hcs hn rfl hR Y hl (fun h => absurd h (by omega))
  | succ k ih =>
    intro n sx sm ls H locs hk hn hR Y hl
    exact l_head hS X X2 hXs hbl hlk hL hcs hn rfl hR Y hl (fun h sx sm ls H locs hR Y hl => ih (n + 1) sx sm ls H locs (by omega) (by omega) hR Y hl)
end LAW
