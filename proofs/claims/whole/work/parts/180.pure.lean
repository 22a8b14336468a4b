theorem st_all : LS_all RelA := sorry
theorem st_late : LS_late RelA := sorry
