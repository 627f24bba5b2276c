theorem pure_law : ip_pure := sorry
