theorem pure_init : Rel 0 st0X st0M := rel_init
theorem pure_step : StepOK Rel :=
  ⟨fun n sx sm hn h => rel_idle hn h, s_set, s_price, s_sort, s_change, s_worth, s_plan, s_brings, s_left, s_best, s_state, s_dip, s_kept, s_keeps, s_rather, s_picks, s_made, s_say, s_wipe, s_fault, s_rule, s_asks, s_boy, s_worst, s_edge, s_told⟩
