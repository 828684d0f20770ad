theorem q_law_ok : q_law := sorry
