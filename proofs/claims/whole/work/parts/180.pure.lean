theorem st_run : LS_run RelA := sorry
theorem st_drop : LS_drop RelA := sorry
theorem st_all : LS_all RelA := sorry
theorem st_late : LS_late RelA := sorry
theorem st_least : LS_least RelA := sorry
theorem st_paid : LS_paid RelA := sorry
theorem st_open : LS_open RelA := sorry
theorem st_holds : LS_holds RelA := sorry
