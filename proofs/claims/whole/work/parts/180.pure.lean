theorem st_run : LS_run RelA := sorry
theorem st_drop : LS_drop RelA := sorry
theorem st_all : LS_all RelA := sorry
theorem st_late : LS_late RelA := sorry
